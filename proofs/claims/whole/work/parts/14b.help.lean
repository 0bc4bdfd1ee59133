set_option maxRecDepth 100000 in
theorem c3_costsOf {b : Nat} (hN : NodesAt b) {S : ns_T} (hV : VS S) {t : Nat} (ht : t < 2 ^ 31) {σ : ex_S} {μ : ex_L}(hC : NC σ b S) : Ci 5 yX3_costsOf cX3_costsOf 4 (some .int) [.ref b, .int (nI t)] TT σ μ (fun z' σ' μ' => z' = nI (ncs S t) ∧ σ' = σ ∧ μ' = μ) := by
  refine Cl_of (by decide +kernel) (Nat.le_of_ble_eq_true rfl) ?_
  show Ev RX3 cX3_costsOf 4 5 0 0 "costsOf" (some .int) ev_ext _ _ 0 0 0 [(0, .ref b), (1, .int (nI t))] [] TT σ μ
  have hn := hV.1
  have hall := ncs_le hV t
  have loop : ∀ (m i : Nat), i + m = S 0 0 → Ev RX3 cX3_costsOf 4 5 0 0 "costsOf" (some .int) ev_ext TT.length (fun v9 T9 σ9 μ9 => T9 = TT ∧ ∃ z9, v9 = some (.int z9) ∧ (fun z' σ' μ' => z' = nI (ncs S t) ∧ σ' = σ ∧ μ' = μ) z9 σ9 μ9) 0 0 13 [(0, .ref b), (1, .int (nI t)), (2, .int (nI (ncsF S t i))), (3, .int (nI i))] [] TT σ μ := by
    intro m
    induction m with
    | zero =>
      intro i hi
      obtain rfl : i = S 0 0 := by omega
      refine e_iload_n dX3_costsOf_13 rfl 3 rfl ?_
      refine e_aload_n dX3_costsOf_14 rfl 0 rfl ?_
      refine e_getI dX3_costsOf_15 lkX3_9 (nodes_0 hN) rfl ?_
      rw [hC.1]
      refine e_icmp_ge (t := 43) dX3_costsOf_18 (by decide) (fun h18 => ?_) (fun h18 => ?_)
      · skip
        refine e_iload_n dX3_costsOf_43 rfl 2 rfl ?_
        refine e_reti dX3_costsOf_44 ev_nwi (Nat.le_refl _) (Nat.le_refl _) ?_
        exact ⟨rfl, rfl, rfl⟩
      · skip
        exact absurd (show nI (S 0 0) ≤ nI (S 0 0) from (i_le (by omega) (by omega)).mpr (by omega)) h18
    | succ m ih =>
      intro i hi
      have e2 : ncsF S t (i + 1) = ncsF S t i + (if t.testBit i then ncost S i else 0) := rfl
      refine e_iload_n dX3_costsOf_13 rfl 3 rfl ?_
      refine e_aload_n dX3_costsOf_14 rfl 0 rfl ?_
      refine e_getI dX3_costsOf_15 lkX3_9 (nodes_0 hN) rfl ?_
      rw [hC.1]
      refine e_icmp_ge (t := 43) dX3_costsOf_18 (by decide) (fun h18 => ?_) (fun h18 => ?_)
      · skip
        exact absurd ((i_le (by omega) (by omega)).mp (show nI (S 0 0) ≤ nI i from h18)) (by omega)
      · skip
        refine e_iload_n dX3_costsOf_21 rfl 1 rfl ?_
        refine e_iload_n dX3_costsOf_22 rfl 3 rfl ?_
        refine e_ishr dX3_costsOf_23 ?_
        refine e_iconst (v := 1) dX3_costsOf_24 rfl ?_
        refine e_iand dX3_costsOf_25 ?_
        refine e_if_eq (t := 37) dX3_costsOf_26 (by decide) (fun h26 => ?_) (fun h26 => ?_)
        · skip
          rw [if_neg (by rw [(i_bit (by omega) (by omega)).mp h26]; decide), Nat.add_zero] at e2
          refine e_iinc (nI (i + 1)) [(0, .ref b), (1, .int (nI t)), (2, .int (nI (ncsF S t i))), (3, .int (nI (i + 1)))] dX3_costsOf_37 3 rfl (nI_1 i) (by decide) rfl ?_
          refine e_goto (t := 13) dX3_costsOf_40 (by decide) ?_
          have h9 := ih (i + 1) (by omega)
          rw [e2] at h9
          exact h9
        · skip
          rw [if_pos (by
            cases hb9 : t.testBit i with
            | true => rfl
            | false => exact absurd ((i_bit (by omega) (by omega)).mpr hb9) h26)] at e2
          refine e_iload_n dX3_costsOf_29 rfl 2 rfl ?_
          refine e_aload_n dX3_costsOf_30 rfl 0 rfl ?_
          refine e_iload_n dX3_costsOf_31 rfl 3 rfl ?_
          refine e_callVi dX3_costsOf_32 cvX3_92 rfl (nodes_0 hN) rfl (c3_costOf hN hV hC (j := i) (by omega)) (Nat.le_of_ble_eq_true rfl) (Nat.le_refl _) (Nat.le_refl _) rfl (Nat.le_of_ble_eq_true rfl) (fun r32 s32 m32 q32 => ?_)
          obtain ⟨q32, e32, g32⟩ := q32
          rw [e32, g32]
          clear e32 g32 s32 m32
          rw [q32]
          refine e_iadd dX3_costsOf_35 ?_
          rw [i_add]
          refine e_istore_n [(0, .ref b), (1, .int (nI t)), (2, .int (nI (ncsF S t i + ncost S i))), (3, .int (nI i))] dX3_costsOf_36 rfl (by decide) rfl ?_
          refine e_iinc (nI (i + 1)) [(0, .ref b), (1, .int (nI t)), (2, .int (nI (ncsF S t i + ncost S i))), (3, .int (nI (i + 1)))] dX3_costsOf_37 3 rfl (nI_1 i) (by decide) rfl ?_
          refine e_goto (t := 13) dX3_costsOf_40 (by decide) ?_
          have h9 := ih (i + 1) (by omega)
          rw [e2] at h9
          exact h9
  refine e_iload_n dX3_costsOf_0 rfl 1 rfl ?_
  refine e_bipush (v := (-5)) dX3_costsOf_1 rfl ?_
  refine e_icmp_ne (t := 9) dX3_costsOf_3 (by decide) (fun h3 => ?_) (fun h3 => ?_)
  · skip
    refine e_iconst (v := 0) dX3_costsOf_9 rfl ?_
    refine e_istore_n [(0, .ref b), (1, .int (nI t)), (2, .int 0)] dX3_costsOf_10 rfl (by decide) rfl ?_
    refine e_iconst (v := 0) dX3_costsOf_11 rfl ?_
    refine e_istore_n [(0, .ref b), (1, .int (nI t)), (2, .int 0), (3, .int 0)] dX3_costsOf_12 rfl (by decide) rfl ?_
    exact loop (S 0 0) 0 (by omega)
  · skip
    exact absurd h3 (hI_some (by omega))

set_option maxRecDepth 100000 in
theorem c2_weigh {b : Nat} (hN : NodesAt b) (hb : 31 < b) {S : ns_T} (hV : VS S) {σ : ex_S} {μ : ex_L}(hC : NC σ b S) (h0 : σ 31 0 = 0) : Cv 5 yX2_weigh cX2_weigh 6 none [.ref 30, .ref b] TT σ μ (fun σ' μ' => (∀ t, t < 2 ^ S 0 0 → σ' 31 t = nI (ncs S t)) ∧ (∀ i, i ≠ 31 → σ' i = σ i) ∧ μ' = μ) := by
  refine Cl_of (by decide +kernel) (Nat.le_of_ble_eq_true rfl) ?_
  show Ev RX2 cX2_weigh 6 5 0 0 "weigh" none ev_ext _ _ 0 0 0 [(0, .ref 30), (1, .ref b)] [] TT σ μ
  have hn := hV.1
  have outer : ∀ (m i : Nat) (σ1 : ex_S), i + m = S 0 0 → (∀ i, i ≠ 31 → σ1 i = σ i) → (∀ t, t < 2 ^ i → σ1 31 t = nI (ncsF S t i)) → Ev RX2 cX2_weigh 6 5 0 0 "weigh" none ev_ext TT.length (fun v9 T9 σ9 μ9 => T9 = TT ∧ v9 = none ∧ (fun σ' μ' => (∀ t, t < 2 ^ S 0 0 → σ' 31 t = nI (ncs S t)) ∧ (∀ i, i ≠ 31 → σ' i = σ i) ∧ μ' = μ) σ9 μ9) 0 0 2 [(0, .ref 30), (1, .ref b), (2, .int (nI i))] [] TT σ1 μ := by
    intro m
    induction m with
    | zero =>
      intro i σ1 hi f1 f2
      obtain rfl : i = S 0 0 := by omega
      have hC1 := hC.to hV (σ' := σ1) (fun k h1 h2 => f1 k (by omega))
      refine e_iload_n dX2_weigh_2 rfl 2 rfl ?_
      refine e_aload_n dX2_weigh_3 rfl 1 rfl ?_
      refine e_getI dX2_weigh_4 lkX2_35 (nodes_0 hN) rfl ?_
      rw [hC1.1]
      refine e_icmp_ge (t := 61) dX2_weigh_7 (by decide) (fun h7 => ?_) (fun h7 => ?_)
      · skip
        refine e_retv dX2_weigh_61 (Nat.le_refl _) (Nat.le_refl _) ?_
        exact ⟨f2, f1, rfl⟩
      · skip
        exact absurd (show nI (S 0 0) ≤ nI (S 0 0) from (i_le (by omega) (by omega)).mpr (by omega)) h7
    | succ m ih =>
      intro i σ1 hi f1 f2
      have hC1 := hC.to hV (σ' := σ1) (fun k h1 h2 => f1 k (by omega))
      have hpi : 2 ^ i ≤ 2 ^ 9 := Nat.pow_le_pow_right (by decide) (by omega)
      have hc := ncost_lt hV (show i < S 0 0 by omega)
      have inner : ∀ (m2 s : Nat) (σ2 : ex_S), s + m2 = 2 ^ i → (∀ i, i ≠ 31 → σ2 i = σ i) → (∀ t, t < 2 ^ i → σ2 31 t = nI (ncsF S t i)) → (∀ t, t < s → σ2 31 (t + 2 ^ i) = nI (ncsF S t i + ncost S i)) → Ev RX2 cX2_weigh 6 5 0 0 "weigh" none ev_ext TT.length (fun v9 T9 σ9 μ9 => T9 = TT ∧ v9 = none ∧ (fun σ' μ' => (∀ t, t < 2 ^ S 0 0 → σ' 31 t = nI (ncs S t)) ∧ (∀ i, i ≠ 31 → σ' i = σ i) ∧ μ' = μ) σ9 μ9) 0 0 24 [(0, .ref 30), (1, .ref b), (2, .int (nI i)), (3, .int (nI (2 ^ i))), (4, .int (nI (ncost S i))), (5, .int (nI s))] [] TT σ2 μ := by
        intro m2
        induction m2 with
        | zero =>
          intro s σ2 hs g1 g2 g3
          obtain rfl : s = 2 ^ i := by omega
          refine e_iload dX2_weigh_24 5 rfl ?_
          refine e_iload_n dX2_weigh_26 rfl 3 rfl ?_
          refine e_icmp_ge (t := 55) dX2_weigh_27 (by decide) (fun h27 => ?_) (fun h27 => ?_)
          · skip
            refine e_iinc (nI (i + 1)) [(0, .ref 30), (1, .ref b), (2, .int (nI (i + 1))), (3, .int (nI (2 ^ i))), (4, .int (nI (ncost S i))), (5, .int (nI (2 ^ i)))] dX2_weigh_55 2 rfl (nI_1 i) (by decide) rfl ?_
            refine e_goto (t := 2) dX2_weigh_58 (by decide) ?_
            refine e_lv [(0, .ref 30), (1, .ref b), (2, .int (nI (i + 1)))] (List.forall_mem_cons.mpr ⟨List.mem_of_getElem? (i := 0) rfl, List.forall_mem_cons.mpr ⟨List.mem_of_getElem? (i := 1) rfl, List.forall_mem_cons.mpr ⟨List.mem_of_getElem? (i := 2) rfl, fun _ h => absurd h List.not_mem_nil⟩⟩⟩) ?_
            refine ih (i + 1) σ2 (by omega) g1 (fun t ht => ?_)
            by_cases e : t < 2 ^ i
            · rw [g2 t e, ncsF_lo e]
            · have h1 := g3 (t - 2 ^ i) (by rw [Nat.pow_succ] at ht; omega)
              rw [show t - 2 ^ i + 2 ^ i = t by omega] at h1
              have h2 := ncsF_hi (S := S) (t := t - 2 ^ i) (i := i) (by rw [Nat.pow_succ] at ht; omega)
              rw [show t - 2 ^ i + 2 ^ i = t by omega] at h2
              rw [h1, h2]
          · skip
            exact absurd (show nI (2 ^ i) ≤ nI (2 ^ i) from (i_le (by omega) (by omega)).mpr (by omega)) h27
        | succ m2 ih2 =>
          intro s σ2 hs g1 g2 g3
          have hidx : nI s ||| nI (2 ^ i) = nI (s + 2 ^ i) := by
            have h1 := fa_or_sum (k := i) (a := s) 1 (by omega)
            rw [Nat.mul_one] at h1
            rw [Int32.or_comm, h1, Nat.add_comm]
          refine e_iload dX2_weigh_24 5 rfl ?_
          refine e_iload_n dX2_weigh_26 rfl 3 rfl ?_
          refine e_icmp_ge (t := 55) dX2_weigh_27 (by decide) (fun h27 => ?_) (fun h27 => ?_)
          · skip
            exact absurd ((i_le (by omega) (by omega)).mp (show nI (2 ^ i) ≤ nI s from h27)) (by omega)
          · skip
            refine e_aload_n dX2_weigh_30 rfl 0 rfl ?_
            refine e_getR dX2_weigh_31 lkX2_15 tt_30 rfl ?_
            refine e_iload dX2_weigh_34 5 rfl ?_
            refine e_iload_n dX2_weigh_36 rfl 3 rfl ?_
            refine e_ior dX2_weigh_37 ?_
            rw [hidx]
            refine e_aload_n dX2_weigh_38 rfl 0 rfl ?_
            refine e_getR dX2_weigh_39 lkX2_15 tt_30 rfl ?_
            refine e_iload dX2_weigh_42 5 rfl ?_
            refine e_iald dX2_weigh_44 tt_31 (vp_in_nI (by omega) (by decide)) ?_
            rw [i_cl (by omega), g2 s (by omega)]
            refine e_iload dX2_weigh_45 4 rfl ?_
            refine e_iadd dX2_weigh_47 ?_
            rw [i_add]
            refine e_iast dX2_weigh_48 tt_31 (vp_in_nI (by omega) (by decide)) ?_
            refine e_iinc (nI (s + 1)) [(0, .ref 30), (1, .ref b), (2, .int (nI i)), (3, .int (nI (2 ^ i))), (4, .int (nI (ncost S i))), (5, .int (nI (s + 1)))] dX2_weigh_49 5 rfl (nI_1 s) (by decide) rfl ?_
            refine e_goto (t := 24) dX2_weigh_52 (by decide) ?_
            rw [i_cl (by omega)]
            refine ih2 (s + 1) _ (by omega) (fun k hk => by rw [sup_obj hk]; exact g1 k hk) (fun t ht => by rw [sup_idx (by omega)]; exact g2 t ht) (fun t ht => ?_)
            by_cases e : t = s
            · rw [e, sup_same]
            · rw [sup_idx (by omega)]
              exact g3 t (by omega)
      refine e_iload_n dX2_weigh_2 rfl 2 rfl ?_
      refine e_aload_n dX2_weigh_3 rfl 1 rfl ?_
      refine e_getI dX2_weigh_4 lkX2_35 (nodes_0 hN) rfl ?_
      rw [hC1.1]
      refine e_icmp_ge (t := 61) dX2_weigh_7 (by decide) (fun h7 => ?_) (fun h7 => ?_)
      · skip
        exact absurd ((i_le (by omega) (by omega)).mp (show nI (S 0 0) ≤ nI i from h7)) (by omega)
      · skip
        refine e_iconst (v := 1) dX2_weigh_10 rfl ?_
        refine e_iload_n dX2_weigh_11 rfl 2 rfl ?_
        refine e_ishl dX2_weigh_12 ?_
        rw [i_shl1 (by omega)]
        refine e_istore_n [(0, .ref 30), (1, .ref b), (2, .int (nI i)), (3, .int (nI (2 ^ i)))] dX2_weigh_13 rfl (by decide) rfl ?_
        refine e_aload_n dX2_weigh_14 rfl 1 rfl ?_
        refine e_iload_n dX2_weigh_15 rfl 2 rfl ?_
        refine e_callVi dX2_weigh_16 cvX2_39 rfl (nodes_0 hN) rfl (c3_costOf hN hV hC1 (j := i) (by omega)) (Nat.le_of_ble_eq_true rfl) (Nat.le_refl _) (Nat.le_refl _) rfl (Nat.le_of_ble_eq_true rfl) (fun r16 s16 m16 q16 => ?_)
        obtain ⟨q16, e16, g16⟩ := q16
        rw [e16, g16]
        clear e16 g16 s16 m16
        rw [q16]
        refine e_istore [(0, .ref 30), (1, .ref b), (2, .int (nI i)), (3, .int (nI (2 ^ i))), (4, .int (nI (ncost S i)))] dX2_weigh_19 (by decide) rfl ?_
        refine e_iconst (v := 0) dX2_weigh_21 rfl ?_
        refine e_istore [(0, .ref 30), (1, .ref b), (2, .int (nI i)), (3, .int (nI (2 ^ i))), (4, .int (nI (ncost S i))), (5, .int 0)] dX2_weigh_22 (by decide) rfl ?_
        exact inner (2 ^ i) 0 σ1 (by omega) f1 f2 (fun t ht => absurd ht (by omega))
  refine e_iconst (v := 0) dX2_weigh_0 rfl ?_
  refine e_istore_n [(0, .ref 30), (1, .ref b), (2, .int 0)] dX2_weigh_1 rfl (by decide) rfl ?_
  exact outer (S 0 0) 0 σ (by omega) (fun _ _ => rfl) (fun t ht => match t, ht with | 0, _ => h0 | t + 1, h => absurd h (by omega))

set_option maxRecDepth 100000 in
theorem c2_helpOf {b : Nat} (hN : NodesAt b) (hb : 31 < b) {p : Nat} (hp : gP p) {S : ns_T} (hV : VS S) {j : Nat} (hj : j < S 0 0) {σ : ex_S} {μ : ex_L}(hC : NC σ b S) (hK : RKI σ p S) (h0 : σ 31 0 = 0) : Ci 7 yX2_helpOf cX2_helpOf 7 (some .int) [.ref 30, .ref b, .int (nI j)] TT σ μ (fun z' σ' μ' => z' = hI (nhelp p S j) ∧ (∀ i, i ≠ 31 → σ' i = σ i) ∧ σ' 31 0 = 0 ∧ μ' = μ) := by
  refine Cl_of (by decide +kernel) (Nat.le_of_ble_eq_true rfl) ?_
  show Ev RX2 cX2_helpOf 7 7 0 0 "helpOf" (some .int) ev_ext _ _ 0 0 0 [(0, .ref 30), (1, .ref b), (2, .int (nI j))] [] TT σ μ
  have hn := hV.1
  have h2n := two_n hV
  have hol := noth_lt hV j
  have loop : Hp p S (noth S j) j (noth S j) → ∀ (σ1 : ex_S), (∀ i, i ≠ 31 → σ1 i = σ i) → (∀ t, t < 2 ^ S 0 0 → σ1 31 t = nI (ncs S t)) → ∀ (m h : Nat), m ≤ noth S j + 1 → h ≤ noth S j → Hp p S (noth S j) j h → (∀ s, m ≤ s → s ≤ noth S j → Hp p S (noth S j) j s → ncs S h < ncs S s ∨ (ncs S h = ncs S s ∧ h ≤ s)) → (m ≤ h ∨ h = noth S j) → Ev RX2 cX2_helpOf 7 7 0 0 "helpOf" (some .int) ev_ext TT.length (fun v9 T9 σ9 μ9 => T9 = TT ∧ ∃ z9, v9 = some (.int z9) ∧ (fun z' σ' μ' => z' = hI (nhelp p S j) ∧ (∀ i, i ≠ 31 → σ' i = σ i) ∧ σ' 31 0 = 0 ∧ μ' = μ) z9 σ9 μ9) 0 0 37 [(0, .ref 30), (1, .ref b), (2, .int (nI j)), (3, .int (nI (noth S j))), (4, .int (nI h)), (5, .int (nI m + (-1)))] [] TT σ1 μ := by
    intro hoo σ1 f1 f2 m
    have hK1 : RKI σ1 p S := fun t ht => by rw [f1 6 (by decide)]; exact hK t ht
    induction m with
    | zero =>
      intro h hm hh g1 g2 g3
      refine e_iload dX2_helpOf_37 5 rfl ?_
      refine e_if_lt (t := 103) dX2_helpOf_39 (by decide) (fun h39 => ?_) (fun h39 => ?_)
      · skip
        refine e_iload dX2_helpOf_103 4 rfl ?_
        refine e_reti dX2_helpOf_105 ev_nwi (Nat.le_refl _) (Nat.le_refl _) ?_
        have hs : nhelp p S j = some h := nhelp_some ⟨by omega, g1, fun s hs hq => g2 s (Nat.zero_le _) (sub_le hq.1) hq⟩
        exact ⟨by rw [hs]; rfl, f1, by rw [f2 0 (Nat.two_pow_pos _)]; exact congrArg nI (by
          have h9 : ∀ i, ncsF S 0 i = 0 := fun i => by
            induction i with
            | zero => rfl
            | succ i ih => show ncsF S 0 i + _ = 0; rw [ih, Nat.zero_testBit]; rfl
          exact h9 _), rfl⟩
      · skip
        exact absurd (by decide : nI 0 + (-1) < 0) h39
    | succ m ih =>
      intro h hm hh g1 g2 g3
      rw [pk_m1]
      have ca := ncs_le hV m
      have cb := ncs_le hV h
      refine e_iload dX2_helpOf_37 5 rfl ?_
      refine e_if_lt (t := 103) dX2_helpOf_39 (by decide) (fun h39 => ?_) (fun h39 => ?_)
      · skip
        exact absurd h39 (nI_pos (by omega))
      · skip
        refine e_iload dX2_helpOf_42 5 rfl ?_
        refine e_iload_n dX2_helpOf_44 rfl 3 rfl ?_
        refine e_iconst (v := (-1)) dX2_helpOf_45 rfl ?_
        refine e_ixor dX2_helpOf_46 ?_
        refine e_iand dX2_helpOf_47 ?_
        rw [not_i _ _ (by omega)]
        refine e_if_ne (t := 55) dX2_helpOf_48 (by decide) (fun h48 => ?_) (fun h48 => ?_)
        · skip
          have hsub : ¬ m &&& noth S j = m := fun q => h48 (by rw [(sub_iff m _).mpr q]; rfl)
          refine e_iconst (v := 0) dX2_helpOf_55 rfl ?_
          refine e_istore [(0, .ref 30), (1, .ref b), (2, .int (nI j)), (3, .int (nI (noth S j))), (4, .int (nI h)), (5, .int (nI m)), (6, .int 0)] dX2_helpOf_56 (by decide) rfl ?_
          refine e_iload dX2_helpOf_58 6 rfl ?_
          refine e_if_eq (t := 97) dX2_helpOf_60 (by decide) (fun h60 => ?_) (fun h60 => ?_)
          · skip
            refine e_iinc (nI m + (-1)) [(0, .ref 30), (1, .ref b), (2, .int (nI j)), (3, .int (nI (noth S j))), (4, .int (nI h)), (5, .int (nI m + (-1))), (6, .int 0)] dX2_helpOf_97 5 rfl rfl (by decide) rfl ?_
            refine e_goto (t := 37) dX2_helpOf_100 (by decide) ?_
            refine e_lv [(0, .ref 30), (1, .ref b), (2, .int (nI j)), (3, .int (nI (noth S j))), (4, .int (nI h)), (5, .int (nI m + (-1)))] (List.forall_mem_cons.mpr ⟨List.mem_of_getElem? (i := 0) rfl, List.forall_mem_cons.mpr ⟨List.mem_of_getElem? (i := 1) rfl, List.forall_mem_cons.mpr ⟨List.mem_of_getElem? (i := 2) rfl, List.forall_mem_cons.mpr ⟨List.mem_of_getElem? (i := 3) rfl, List.forall_mem_cons.mpr ⟨List.mem_of_getElem? (i := 4) rfl, List.forall_mem_cons.mpr ⟨List.mem_of_getElem? (i := 5) rfl, fun _ h => absurd h List.not_mem_nil⟩⟩⟩⟩⟩⟩) ?_
            refine ih h (by omega) hh g1 (fun s h1 h2 hq => ?_) (by omega)
            by_cases e : s = m
            · subst e
              exact absurd hq.1 hsub
            · exact g2 s (by omega) h2 hq
          · skip
            exact absurd rfl h60
        · skip
          have hsub : m &&& noth S j = m := (sub_iff m _).mp ((i_eq (Nat.lt_of_le_of_lt Nat.and_le_left (by omega)) (by decide)).mp (show nI _ = nI 0 from h48))
          refine e_iconst (v := 1) dX2_helpOf_51 rfl ?_
          refine e_goto (t := 56) dX2_helpOf_52 (by decide) ?_
          refine e_istore [(0, .ref 30), (1, .ref b), (2, .int (nI j)), (3, .int (nI (noth S j))), (4, .int (nI h)), (5, .int (nI m)), (6, .int 1)] dX2_helpOf_56 (by decide) rfl ?_
          refine e_iload dX2_helpOf_58 6 rfl ?_
          refine e_if_eq (t := 97) dX2_helpOf_60 (by decide) (fun h60 => ?_) (fun h60 => ?_)
          · skip
            exact absurd h60 (by decide)
          · skip
            refine e_aload_n dX2_helpOf_63 rfl 0 rfl ?_
            refine e_getR dX2_helpOf_64 lkX2_15 tt_30 rfl ?_
            refine e_iload dX2_helpOf_67 5 rfl ?_
            refine e_iald dX2_helpOf_69 tt_31 (vp_in_nI (by omega) (by decide)) ?_
            rw [i_cl (by omega), f2 m (by omega)]
            refine e_aload_n dX2_helpOf_70 rfl 0 rfl ?_
            refine e_getR dX2_helpOf_71 lkX2_15 tt_30 rfl ?_
            refine e_iload dX2_helpOf_74 4 rfl ?_
            refine e_iald dX2_helpOf_76 tt_31 (vp_in_nI (by omega) (by decide)) ?_
            rw [i_cl (by omega), f2 h (by omega)]
            refine e_icmp_gt (t := 97) dX2_helpOf_77 (by decide) (fun h77 => ?_) (fun h77 => ?_)
            · skip
              skip
              refine e_iinc (nI m + (-1)) [(0, .ref 30), (1, .ref b), (2, .int (nI j)), (3, .int (nI (noth S j))), (4, .int (nI h)), (5, .int (nI m + (-1))), (6, .int 1)] dX2_helpOf_97 5 rfl rfl (by decide) rfl ?_
              refine e_goto (t := 37) dX2_helpOf_100 (by decide) ?_
              refine e_lv [(0, .ref 30), (1, .ref b), (2, .int (nI j)), (3, .int (nI (noth S j))), (4, .int (nI h)), (5, .int (nI m + (-1)))] (List.forall_mem_cons.mpr ⟨List.mem_of_getElem? (i := 0) rfl, List.forall_mem_cons.mpr ⟨List.mem_of_getElem? (i := 1) rfl, List.forall_mem_cons.mpr ⟨List.mem_of_getElem? (i := 2) rfl, List.forall_mem_cons.mpr ⟨List.mem_of_getElem? (i := 3) rfl, List.forall_mem_cons.mpr ⟨List.mem_of_getElem? (i := 4) rfl, List.forall_mem_cons.mpr ⟨List.mem_of_getElem? (i := 5) rfl, fun _ h => absurd h List.not_mem_nil⟩⟩⟩⟩⟩⟩) ?_
              refine ih h (by omega) hh g1 (fun s h1 h2 hq => ?_) (by omega)
              by_cases e : s = m
              · subst e
                exact Or.inl ((i_lt (by omega) (by omega)).mp h77)
              · exact g2 s (by omega) h2 hq
            · skip
              refine e_aload_n dX2_helpOf_80 rfl 0 rfl ?_
              refine e_getR dX2_helpOf_81 lkX2_9 tt_30 rfl ?_
              refine e_iload dX2_helpOf_84 5 rfl ?_
              refine e_iload_n dX2_helpOf_86 rfl 2 rfl ?_
              refine e_callVi dX2_helpOf_87 cvX2_25 rfl tt_5 rfl (c6_tellsN hp hV (t := m) (j := j) (by omega) hj hK1) (Nat.le_of_ble_eq_true rfl) (Nat.le_refl _) (Nat.le_refl _) rfl (Nat.le_of_ble_eq_true rfl) (fun r87 s87 m87 q87 => ?_)
              obtain ⟨q87, e87, g87⟩ := q87
              rw [e87, g87]
              clear e87 g87 s87 m87
              refine e_if_eq (t := 97) dX2_helpOf_90 (by decide) (fun h90 => ?_) (fun h90 => ?_)
              · skip
                skip
                refine e_iinc (nI m + (-1)) [(0, .ref 30), (1, .ref b), (2, .int (nI j)), (3, .int (nI (noth S j))), (4, .int (nI h)), (5, .int (nI m + (-1))), (6, .int 1)] dX2_helpOf_97 5 rfl rfl (by decide) rfl ?_
                refine e_goto (t := 37) dX2_helpOf_100 (by decide) ?_
                refine e_lv [(0, .ref 30), (1, .ref b), (2, .int (nI j)), (3, .int (nI (noth S j))), (4, .int (nI h)), (5, .int (nI m + (-1)))] (List.forall_mem_cons.mpr ⟨List.mem_of_getElem? (i := 0) rfl, List.forall_mem_cons.mpr ⟨List.mem_of_getElem? (i := 1) rfl, List.forall_mem_cons.mpr ⟨List.mem_of_getElem? (i := 2) rfl, List.forall_mem_cons.mpr ⟨List.mem_of_getElem? (i := 3) rfl, List.forall_mem_cons.mpr ⟨List.mem_of_getElem? (i := 4) rfl, List.forall_mem_cons.mpr ⟨List.mem_of_getElem? (i := 5) rfl, fun _ h => absurd h List.not_mem_nil⟩⟩⟩⟩⟩⟩) ?_
                refine ih h (by omega) hh g1 (fun s h1 h2 hq => ?_) (by omega)
                by_cases e : s = m
                · subst e
                  exact absurd hq.2 (by rw [q87, bI_eq0] at h90; exact h90)
                · exact g2 s (by omega) h2 hq
              · skip
                refine e_iload dX2_helpOf_93 5 rfl ?_
                refine e_istore [(0, .ref 30), (1, .ref b), (2, .int (nI j)), (3, .int (nI (noth S j))), (4, .int (nI m)), (5, .int (nI m)), (6, .int 1)] dX2_helpOf_95 (by decide) rfl ?_
                refine e_iinc (nI m + (-1)) [(0, .ref 30), (1, .ref b), (2, .int (nI j)), (3, .int (nI (noth S j))), (4, .int (nI m)), (5, .int (nI m + (-1))), (6, .int 1)] dX2_helpOf_97 5 rfl rfl (by decide) rfl ?_
                refine e_goto (t := 37) dX2_helpOf_100 (by decide) ?_
                refine e_lv [(0, .ref 30), (1, .ref b), (2, .int (nI j)), (3, .int (nI (noth S j))), (4, .int (nI m)), (5, .int (nI m + (-1)))] (List.forall_mem_cons.mpr ⟨List.mem_of_getElem? (i := 0) rfl, List.forall_mem_cons.mpr ⟨List.mem_of_getElem? (i := 1) rfl, List.forall_mem_cons.mpr ⟨List.mem_of_getElem? (i := 2) rfl, List.forall_mem_cons.mpr ⟨List.mem_of_getElem? (i := 3) rfl, List.forall_mem_cons.mpr ⟨List.mem_of_getElem? (i := 4) rfl, List.forall_mem_cons.mpr ⟨List.mem_of_getElem? (i := 5) rfl, fun _ h => absurd h List.not_mem_nil⟩⟩⟩⟩⟩⟩) ?_
                refine ih m (by omega) (by omega) ⟨hsub, by rw [q87, bI_eq0] at h90; exact Classical.not_not.mp h90⟩ (fun s h1 h2 hq => ?_) (Or.inl (Nat.le_refl m))
                have hle := (i_le (show ncs S m < 2 ^ 31 by omega) (by omega)).mp (i32_nlt h77)
                by_cases e : s = m
                · subst e; exact Or.inr ⟨rfl, Nat.le_refl _⟩
                · have := g2 s (by omega) h2 hq
                  omega
  refine e_aload_n dX2_helpOf_0 rfl 1 rfl ?_
  refine e_callVi dX2_helpOf_1 cvX2_19 rfl (nodes_0 hN) rfl (c3_thereN hN hV hC) (Nat.le_of_ble_eq_true rfl) (Nat.le_refl _) (Nat.le_refl _) rfl (Nat.le_of_ble_eq_true rfl) (fun r1 s1 m1 q1 => ?_)
  obtain ⟨q1, e1, g1⟩ := q1
  rw [e1, g1]
  clear e1 g1 s1 m1
  refine e_iconst (v := 1) dX2_helpOf_4 rfl ?_
  refine e_iload_n dX2_helpOf_5 rfl 2 rfl ?_
  refine e_ishl dX2_helpOf_6 ?_
  refine e_iconst (v := (-1)) dX2_helpOf_7 rfl ?_
  refine e_ixor dX2_helpOf_8 ?_
  refine e_iand dX2_helpOf_9 ?_
  rw [q1, i_oth hV hj]
  refine e_istore_n [(0, .ref 30), (1, .ref b), (2, .int (nI j)), (3, .int (nI (noth S j)))] dX2_helpOf_10 rfl (by decide) rfl ?_
  refine e_aload_n dX2_helpOf_11 rfl 0 rfl ?_
  refine e_getR dX2_helpOf_12 lkX2_9 tt_30 rfl ?_
  refine e_iload_n dX2_helpOf_15 rfl 3 rfl ?_
  refine e_iload_n dX2_helpOf_16 rfl 2 rfl ?_
  refine e_callVi dX2_helpOf_17 cvX2_25 rfl tt_5 rfl (c6_tellsN hp hV (t := noth S j) (j := j) hol hj hK) (Nat.le_of_ble_eq_true rfl) (Nat.le_refl _) (Nat.le_refl _) rfl (Nat.le_of_ble_eq_true rfl) (fun r17 s17 m17 q17 => ?_)
  obtain ⟨q17, e17, g17⟩ := q17
  rw [e17, g17]
  clear e17 g17 s17 m17
  refine e_if_ne (t := 26) dX2_helpOf_20 (by decide) (fun h20 => ?_) (fun h20 => ?_)
  · skip
    rw [q17, bI_eq0] at h20
    have hoo : Hp p S (noth S j) j (noth S j) := ⟨Nat.and_self _, Classical.not_not.mp h20⟩
    refine e_aload_n dX2_helpOf_26 rfl 0 rfl ?_
    refine e_aload_n dX2_helpOf_27 rfl 1 rfl ?_
    refine e_callVv dX2_helpOf_28 cvX2_31 rfl tt_30 rfl (c2_weigh hN hb hV hC h0) (Nat.le_of_ble_eq_true rfl) (Nat.le_refl _) (Nat.le_refl _) rfl (Nat.le_of_ble_eq_true rfl) (fun s28 m28 q28 => ?_)
    obtain ⟨a1, a2, a3⟩ := q28
    rw [a3]
    refine e_iload_n dX2_helpOf_31 rfl 3 rfl ?_
    refine e_istore [(0, .ref 30), (1, .ref b), (2, .int (nI j)), (3, .int (nI (noth S j))), (4, .int (nI (noth S j)))] dX2_helpOf_32 (by decide) rfl ?_
    refine e_iload_n dX2_helpOf_34 rfl 3 rfl ?_
    refine e_istore [(0, .ref 30), (1, .ref b), (2, .int (nI j)), (3, .int (nI (noth S j))), (4, .int (nI (noth S j))), (5, .int (nI (noth S j)))] dX2_helpOf_35 (by decide) rfl ?_
    have h9 := loop hoo _ a2 a1 (noth S j + 1) (noth S j) (Nat.le_refl _) (Nat.le_refl _) hoo (fun s h1 h2 => absurd h1 (by omega)) (Or.inr rfl)
    rw [pk_m1] at h9
    exact h9
  · skip
    rw [q17, bI_eq0] at h20
    refine e_bipush (v := (-5)) dX2_helpOf_23 rfl ?_
    refine e_reti dX2_helpOf_25 ev_nwi (Nat.le_refl _) (Nat.le_refl _) ?_
    exact ⟨by rw [nhelp_none (fun s hs hq => h20 (Hp_all hp hV hj hq))]; rfl, fun _ _ => rfl, h0, rfl⟩
