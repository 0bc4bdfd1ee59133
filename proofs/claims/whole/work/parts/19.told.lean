set_option maxRecDepth 100000 in
theorem c10_distance {p : Nat} (hp : gP p) {S : ns_T} (hV : VS S) {σ : ex_S} {μ : ex_L}(hC : NC σ 33 S) (hK : RKI σ p S) : Ci 6 yX10_distance cX10_distance 2 (some .int) [.ref 0] TT σ μ (fun z' σ' μ' => z' = hI (ndis p S) ∧ σ' = σ ∧ μ' = μ) := by
  refine Cl_of (by decide +kernel) (Nat.le_of_ble_eq_true rfl) ?_
  show Ev RX10 cX10_distance 2 6 0 0 "distance" (some .int) ev_ext _ _ 0 0 0 [(0, .ref 0)] [] TT σ μ
  have hn := hV.1
  have h2n := two_n hV
  have loop : S 0 1 ≠ 0 → ∀ (m e : Nat), e + m = S 0 0 + 1 → (∀ k, k < e → nsafe p S k = nany S k) → Ev RX10 cX10_distance 2 6 0 0 "distance" (some .int) ev_ext TT.length (fun v9 T9 σ9 μ9 => T9 = TT ∧ ∃ z9, v9 = some (.int z9) ∧ (fun z' σ' μ' => z' = hI (ndis p S) ∧ σ' = σ ∧ μ' = μ) z9 σ9 μ9) 0 0 18 [(0, .ref 0), (1, .int (nI e))] [] TT σ μ := by
    intro hd m
    induction m with
    | zero =>
      intro e he hz
      exact absurd (hz (S 0 0) (by omega)) (safe_top hp hV hd)
    | succ m ih =>
      intro e he hz
      have hsl := nsafe_le (p := p) hV e
      have hbl := nbin_le (S 0 0) (by omega) e (by omega)
      have hae := nany_eq hV (e := e) (by omega)
      refine e_iload_n dX10_distance_18 rfl 1 rfl ?_
      refine e_aload_n dX10_distance_19 rfl 0 rfl ?_
      refine e_getR dX10_distance_20 lkX10_46 tt_0 rfl ?_
      refine e_getR dX10_distance_23 lkX10_89 (store_0 store_32_) rfl ?_
      refine e_getI dX10_distance_26 lkX10_92 (nodes_0 (store_n store_32_)) rfl ?_
      rw [hC.1]
      refine e_icmp_gt (t := 53) dX10_distance_29 (by decide) (fun h29 => ?_) (fun h29 => ?_)
      · skip
        exact absurd ((i_lt (by omega) (by omega)).mp (show nI (S 0 0) < nI e from h29)) (by omega)
      · skip
        refine e_aload_n dX10_distance_32 rfl 0 rfl ?_
        refine e_iload_n dX10_distance_33 rfl 1 rfl ?_
        refine e_callVi dX10_distance_34 cvX10_256 rfl tt_0 rfl (c10_safeSets hp hV (e := e) (by omega) hC hK) (Nat.le_of_ble_eq_true rfl) (Nat.le_refl _) (Nat.le_refl _) rfl (Nat.le_of_ble_eq_true rfl) (fun r34 s34 m34 q34 => ?_)
        obtain ⟨q34, e34, g34⟩ := q34
        rw [e34, g34]
        clear e34 g34 s34 m34
        refine e_aload_n dX10_distance_37 rfl 0 rfl ?_
        refine e_iload_n dX10_distance_38 rfl 1 rfl ?_
        refine e_callVi dX10_distance_39 cvX10_259 rfl tt_0 rfl (c10_allSets hV (e := e) (by omega) hC) (Nat.le_of_ble_eq_true rfl) (Nat.le_refl _) (Nat.le_refl _) rfl (Nat.le_of_ble_eq_true rfl) (fun r39 s39 m39 q39 => ?_)
        obtain ⟨q39, e39, g39⟩ := q39
        rw [e39, g39]
        clear e39 g39 s39 m39
        refine e_icmp_eq (t := 47) dX10_distance_42 (by decide) (fun h42 => ?_) (fun h42 => ?_)
        · skip
          have heq : nsafe p S e = nany S e := by
            rw [q34, q39] at h42
            rw [hae]
            exact (i_eq (by omega) (by omega)).mp h42
          refine e_iinc (nI (e + 1)) [(0, .ref 0), (1, .int (nI (e + 1)))] dX10_distance_47 1 rfl (nI_1 e) (by decide) rfl ?_
          refine e_goto (t := 18) dX10_distance_50 (by decide) ?_
          exact ih (e + 1) (by omega) (fun k hk => by
            by_cases q : k = e
            · rw [q]; exact heq
            · exact hz k (by omega))
        · skip
          have hne : nsafe p S e ≠ nany S e := fun q => h42 (by rw [q34, q39, q, hae])
          refine e_iload_n dX10_distance_45 rfl 1 rfl ?_
          refine e_reti dX10_distance_46 ev_nwi (Nat.le_refl _) (Nat.le_refl _) ?_
          exact ⟨by rw [ndis_some hd ⟨by omega, hne, hz⟩]; rfl, rfl, rfl⟩
  refine e_aload_n dX10_distance_0 rfl 0 rfl ?_
  refine e_getR dX10_distance_1 lkX10_46 tt_0 rfl ?_
  refine e_getR dX10_distance_4 lkX10_89 (store_0 store_32_) rfl ?_
  refine e_getI dX10_distance_7 lkX10_130 (nodes_0 (store_n store_32_)) rfl ?_
  rw [hC.2.1]
  refine e_if_ne (t := 16) dX10_distance_10 (by decide) (fun h10 => ?_) (fun h10 => ?_)
  · skip
    refine e_iconst (v := 0) dX10_distance_16 rfl ?_
    refine e_istore_n [(0, .ref 0), (1, .int 0)] dX10_distance_17 rfl (by decide) rfl ?_
    exact loop (fun q => h10 (by rw [q]; rfl)) (S 0 0 + 1) 0 (by omega) (fun k hk => absurd hk (by omega))
  · skip
    refine e_bipush (v := (-5)) dX10_distance_13 rfl ?_
    refine e_reti dX10_distance_15 ev_nwi (Nat.le_refl _) (Nat.le_refl _) ?_
    exact ⟨by rw [ndis_none ((i_eq (by have := hV.2.1; omega) (by decide)).mp (show nI (S 0 1) = nI 0 from h10))]; rfl, rfl, rfl⟩

set_option maxRecDepth 100000 in
theorem c11_distance {p : Nat} (hp : gP p) {S : ns_T} (hV : VS S) {σ : ex_S} {μ : ex_L}(hF : FR σ p) (hR : NR σ S) : Ci 9 yX11_distance cX11_distance 2 (some .int) [.ref 127] TT σ μ (fun z' σ' μ' => z' = hI (ndis p S) ∧ FrM σ σ' ∧ μ' = μ) := by
  refine Cl_of (by decide +kernel) (Nat.le_of_ble_eq_true rfl) ?_
  show Ev RX11 cX11_distance 2 9 0 0 "distance" (some .int) ev_ext _ _ 0 0 0 [(0, .ref 127)] [] TT σ μ
  have hn := hV.1
  have h2n := two_n hV
  have loop : S 0 1 ≠ 0 → ∀ (m e : Nat) (σ1 : ex_S), e + m = S 0 0 + 1 → FrM σ σ1 → (∀ k, k < e → nsafe p S k = nany S k) → Ev RX11 cX11_distance 2 9 0 0 "distance" (some .int) ev_ext TT.length (fun v9 T9 σ9 μ9 => T9 = TT ∧ ∃ z9, v9 = some (.int z9) ∧ (fun z' σ' μ' => z' = hI (ndis p S) ∧ FrM σ σ' ∧ μ' = μ) z9 σ9 μ9) 0 0 12 [(0, .ref 127), (1, .int (nI e))] [] TT σ1 μ := by
    intro hd m
    induction m with
    | zero =>
      intro e σ1 he f1 hz
      exact absurd (hz (S 0 0) (by omega)) (safe_top hp hV hd)
    | succ m ih =>
      intro e σ1 he f1 hz
      have hR1 := hR.to f1
      have hF1 := hF.to f1
      have hsl := nsafe_le (p := p) hV e
      have hbl := nbin_le (S 0 0) (by omega) e (by omega)
      have hae := nany_eq hV (e := e) (by omega)
      refine e_aload_n dX11_distance_12 rfl 0 rfl ?_
      refine e_iload_n dX11_distance_13 rfl 1 rfl ?_
      refine e_iconst (v := 0) dX11_distance_14 rfl ?_
      refine e_callVi dX11_distance_15 cvX11_235 rfl tt_127 rfl (c11_safeOf hp hV (e := e) (by omega) hF1 hR1) (Nat.le_of_ble_eq_true rfl) (Nat.le_refl _) (Nat.le_refl _) rfl (Nat.le_of_ble_eq_true rfl) (fun r15 s15 m15 q15 => ?_)
      obtain ⟨q15, a1, a2⟩ := q15
      rw [a2]
      refine e_aload_n dX11_distance_18 rfl 0 rfl ?_
      refine e_iload_n dX11_distance_19 rfl 1 rfl ?_
      refine e_iconst (v := 1) dX11_distance_20 rfl ?_
      refine e_callVi dX11_distance_21 cvX11_235 rfl tt_127 rfl (c11_anyOf hp hV (e := e) (by omega) (hF1.to a1) (hR1.to a1)) (Nat.le_of_ble_eq_true rfl) (Nat.le_refl _) (Nat.le_refl _) rfl (Nat.le_of_ble_eq_true rfl) (fun r21 s21 m21 q21 => ?_)
      obtain ⟨q21, b1, b2⟩ := q21
      rw [b2]
      refine e_icmp_ne (t := 33) dX11_distance_24 (by decide) (fun h24 => ?_) (fun h24 => ?_)
      · skip
        have hne : nsafe p S e ≠ nany S e := fun q => h24 (by rw [q15, q21, q])
        refine e_iload_n dX11_distance_33 rfl 1 rfl ?_
        refine e_reti dX11_distance_34 ev_nwi (Nat.le_refl _) (Nat.le_refl _) ?_
        exact ⟨by rw [ndis_some hd ⟨by omega, hne, hz⟩]; rfl, (f1.tr a1).tr b1, rfl⟩
      · skip
        have heq : nsafe p S e = nany S e := by
          rw [q15, q21] at h24
          exact (i_eq (by omega) (by omega)).mp h24
        refine e_iinc (nI (e + 1)) [(0, .ref 127), (1, .int (nI (e + 1)))] dX11_distance_27 1 rfl (nI_1 e) (by decide) rfl ?_
        refine e_goto (t := 12) dX11_distance_30 (by decide) ?_
        exact ih (e + 1) _ (by omega) ((f1.tr a1).tr b1) (fun k hk => by
          by_cases q : k = e
          · rw [q]; exact heq
          · exact hz k (by omega))
  refine e_aload_n dX11_distance_0 rfl 0 rfl ?_
  refine e_getI dX11_distance_1 lkX11_134 tt_127 rfl ?_
  rw [hR.2.1]
  refine e_if_ne (t := 10) dX11_distance_4 (by decide) (fun h4 => ?_) (fun h4 => ?_)
  · skip
    refine e_iconst (v := 0) dX11_distance_10 rfl ?_
    refine e_istore_n [(0, .ref 127), (1, .int 0)] dX11_distance_11 rfl (by decide) rfl ?_
    exact loop (fun q => h4 (by rw [q]; rfl)) (S 0 0 + 1) 0 σ (by omega) FrM.rf (fun k hk => absurd hk (by omega))
  · skip
    refine e_bipush (v := (-5)) dX11_distance_7 rfl ?_
    refine e_reti dX11_distance_9 ev_nwi (Nat.le_refl _) (Nat.le_refl _) ?_
    exact ⟨by rw [ndis_none ((i_eq (by have := hV.2.1; omega) (by decide)).mp (show nI (S 0 1) = nI 0 from h4))]; rfl, FrM.rf, rfl⟩

set_option maxRecDepth 100000 in
theorem c10_missingWithHelp {p : Nat} (hp : gP p) {S : ns_T} (hV : VS S) {σ : ex_S} {μ : ex_L}(hC : NC σ 33 S) (hK : RKI σ p S) : Ci 4 yX10_missingWithHelp cX10_missingWithHelp 4 (some .int) [.ref 0] TT σ μ (fun z' σ' μ' => z' = nI (nhlpd p S) ∧ σ' = σ ∧ μ' = μ) := by
  refine Cl_of (by decide +kernel) (Nat.le_of_ble_eq_true rfl) ?_
  show Ev RX10 cX10_missingWithHelp 4 4 0 0 "missingWithHelp" (some .int) ev_ext _ _ 0 0 0 [(0, .ref 0)] [] TT σ μ
  have hn := hV.1
  have h2n := two_n hV
  have loop : ∀ (m i : Nat), i + m = S 0 0 → Ev RX10 cX10_missingWithHelp 4 4 0 0 "missingWithHelp" (some .int) ev_ext TT.length (fun v9 T9 σ9 μ9 => T9 = TT ∧ ∃ z9, v9 = some (.int z9) ∧ (fun z' σ' μ' => z' = nI (nhlpd p S) ∧ σ' = σ ∧ μ' = μ) z9 σ9 μ9) 0 0 12 [(0, .ref 0), (1, .ref 33), (2, .int (nI (nset (HasHelp p S) i))), (3, .int (nI i))] [] TT σ μ := by
    intro m
    induction m with
    | zero =>
      intro i hi
      obtain rfl : i = S 0 0 := by omega
      refine e_iload_n dX10_missingWithHelp_12 rfl 3 rfl ?_
      refine e_aload_n dX10_missingWithHelp_13 rfl 1 rfl ?_
      refine e_getI dX10_missingWithHelp_14 lkX10_92 (nodes_0 nodes_33_) rfl ?_
      rw [hC.1]
      refine e_icmp_ge (t := 55) dX10_missingWithHelp_17 (by decide) (fun h17 => ?_) (fun h17 => ?_)
      · skip
        refine e_iload_n dX10_missingWithHelp_55 rfl 2 rfl ?_
        refine e_reti dX10_missingWithHelp_56 ev_nwi (Nat.le_refl _) (Nat.le_refl _) ?_
        exact ⟨rfl, rfl, rfl⟩
      · skip
        exact absurd (show nI (S 0 0) ≤ nI (S 0 0) from (i_le (by omega) (by omega)).mpr (by omega)) h17
    | succ m ih =>
      intro i hi
      refine e_iload_n dX10_missingWithHelp_12 rfl 3 rfl ?_
      refine e_aload_n dX10_missingWithHelp_13 rfl 1 rfl ?_
      refine e_getI dX10_missingWithHelp_14 lkX10_92 (nodes_0 nodes_33_) rfl ?_
      rw [hC.1]
      refine e_icmp_ge (t := 55) dX10_missingWithHelp_17 (by decide) (fun h17 => ?_) (fun h17 => ?_)
      · skip
        exact absurd ((i_le (by omega) (by omega)).mp (show nI (S 0 0) ≤ nI i from h17)) (by omega)
      · skip
        refine e_aload_n dX10_missingWithHelp_20 rfl 1 rfl ?_
        refine e_iload_n dX10_missingWithHelp_21 rfl 3 rfl ?_
        refine e_callVi dX10_missingWithHelp_22 cvX10_187 rfl (nodes_0 nodes_33_) rfl (c3_isMissingN nodes_33_ hV hC (j := i) (by omega)) (Nat.le_of_ble_eq_true rfl) (Nat.le_refl _) (Nat.le_refl _) rfl (Nat.le_of_ble_eq_true rfl) (fun r22 s22 m22 q22 => ?_)
        obtain ⟨q22, e22, g22⟩ := q22
        rw [e22, g22]
        clear e22 g22 s22 m22
        refine e_if_eq (t := 49) dX10_missingWithHelp_25 (by decide) (fun h25 => ?_) (fun h25 => ?_)
        · skip
          have hno : ¬ HasHelp p S i := fun q => by
            rw [q22, bI_eq0] at h25
            exact h25 q.1
          refine e_iinc (nI (i + 1)) [(0, .ref 0), (1, .ref 33), (2, .int (nI (nset (HasHelp p S) i))), (3, .int (nI (i + 1)))] dX10_missingWithHelp_49 3 rfl (nI_1 i) (by decide) rfl ?_
          refine e_goto (t := 12) dX10_missingWithHelp_52 (by decide) ?_
          have h9 := ih (i + 1) (by omega)
          rw [nset_f hno] at h9
          exact h9
        · skip
          refine e_aload_n dX10_missingWithHelp_28 rfl 0 rfl ?_
          refine e_getR dX10_missingWithHelp_29 lkX10_30 tt_0 rfl ?_
          refine e_aload_n dX10_missingWithHelp_32 rfl 1 rfl ?_
          refine e_callVi dX10_missingWithHelp_33 cvX10_241 rfl (nodes_0 nodes_33_) rfl (c3_thereN nodes_33_ hV hC) (Nat.le_of_ble_eq_true rfl) (Nat.le_refl _) (Nat.le_refl _) rfl (Nat.le_of_ble_eq_true rfl) (fun r33 s33 m33 q33 => ?_)
          obtain ⟨q33, e33, g33⟩ := q33
          rw [e33, g33]
          clear e33 g33 s33 m33
          refine e_iload_n dX10_missingWithHelp_36 rfl 3 rfl ?_
          rw [q33]
          refine e_callVi dX10_missingWithHelp_37 cvX10_219 rfl tt_5 rfl (c6_tellsN hp hV (t := nthere S) (j := i) (nthere_lt hV) (by omega) hK) (Nat.le_of_ble_eq_true rfl) (Nat.le_refl _) (Nat.le_refl _) rfl (Nat.le_of_ble_eq_true rfl) (fun r37 s37 m37 q37 => ?_)
          obtain ⟨q37, e37, g37⟩ := q37
          rw [e37, g37]
          clear e37 g37 s37 m37
          refine e_if_eq (t := 49) dX10_missingWithHelp_40 (by decide) (fun h40 => ?_) (fun h40 => ?_)
          · skip
            have hno : ¬ HasHelp p S i := fun q => by
              rw [q37, bI_eq0] at h40
              exact h40 q.2
            refine e_iinc (nI (i + 1)) [(0, .ref 0), (1, .ref 33), (2, .int (nI (nset (HasHelp p S) i))), (3, .int (nI (i + 1)))] dX10_missingWithHelp_49 3 rfl (nI_1 i) (by decide) rfl ?_
            refine e_goto (t := 12) dX10_missingWithHelp_52 (by decide) ?_
            have h9 := ih (i + 1) (by omega)
            rw [nset_f hno] at h9
            exact h9
          · skip
            have hyes : HasHelp p S i := ⟨by rw [q22, bI_eq0] at h25; exact Classical.not_not.mp h25, by rw [q37, bI_eq0] at h40; exact Classical.not_not.mp h40⟩
            refine e_iload_n dX10_missingWithHelp_43 rfl 2 rfl ?_
            refine e_iconst (v := 1) dX10_missingWithHelp_44 rfl ?_
            refine e_iload_n dX10_missingWithHelp_45 rfl 3 rfl ?_
            refine e_ishl dX10_missingWithHelp_46 ?_
            rw [i_shl1 (by omega)]
            refine e_ior dX10_missingWithHelp_47 ?_
            rw [fa_or]
            refine e_istore_n [(0, .ref 0), (1, .ref 33), (2, .int (nI (nset (HasHelp p S) i ||| 2 ^ i))), (3, .int (nI i))] dX10_missingWithHelp_48 rfl (by decide) rfl ?_
            refine e_iinc (nI (i + 1)) [(0, .ref 0), (1, .ref 33), (2, .int (nI (nset (HasHelp p S) i ||| 2 ^ i))), (3, .int (nI (i + 1)))] dX10_missingWithHelp_49 3 rfl (nI_1 i) (by decide) rfl ?_
            refine e_goto (t := 12) dX10_missingWithHelp_52 (by decide) ?_
            have h9 := ih (i + 1) (by omega)
            rw [nset_t hyes] at h9
            exact h9
  refine e_aload_n dX10_missingWithHelp_0 rfl 0 rfl ?_
  refine e_getR dX10_missingWithHelp_1 lkX10_46 tt_0 rfl ?_
  refine e_getR dX10_missingWithHelp_4 lkX10_89 (store_0 store_32_) rfl ?_
  refine e_astore_n [(0, .ref 0), (1, .ref 33)] dX10_missingWithHelp_7 rfl (by decide) rfl ?_
  refine e_iconst (v := 0) dX10_missingWithHelp_8 rfl ?_
  refine e_istore_n [(0, .ref 0), (1, .ref 33), (2, .int 0)] dX10_missingWithHelp_9 rfl (by decide) rfl ?_
  refine e_iconst (v := 0) dX10_missingWithHelp_10 rfl ?_
  refine e_istore_n [(0, .ref 0), (1, .ref 33), (2, .int 0), (3, .int 0)] dX10_missingWithHelp_11 rfl (by decide) rfl ?_
  exact loop (S 0 0) 0 (by omega)

set_option maxRecDepth 100000 in
theorem c11_helped {p : Nat} (hp : gP p) {S : ns_T} (hV : VS S) {σ : ex_S} {μ : ex_L}(hF : FR σ p) (hR : NR σ S) : Ci 8 yX11_helped cX11_helped 3 (some .int) [.ref 127] TT σ μ (fun z' σ' μ' => z' = nI (nhlpd p S) ∧ FrM σ σ' ∧ μ' = μ) := by
  refine Cl_of (by decide +kernel) (Nat.le_of_ble_eq_true rfl) ?_
  show Ev RX11 cX11_helped 3 8 0 0 "helped" (some .int) ev_ext _ _ 0 0 0 [(0, .ref 127)] [] TT σ μ
  have hn := hV.1
  have h2n := two_n hV
  have htl := nthere_lt hV
  have loop : ∀ (m i : Nat) (σ1 : ex_S), i + m = S 0 0 → FrM σ σ1 → Ev RX11 cX11_helped 3 8 0 0 "helped" (some .int) ev_ext TT.length (fun v9 T9 σ9 μ9 => T9 = TT ∧ ∃ z9, v9 = some (.int z9) ∧ (fun z' σ' μ' => z' = nI (nhlpd p S) ∧ FrM σ σ' ∧ μ' = μ) z9 σ9 μ9) 0 0 4 [(0, .ref 127), (1, .int (nI (nset (HasHelp p S) i))), (2, .int (nI i))] [] TT σ1 μ := by
    intro m
    induction m with
    | zero =>
      intro i σ1 hi f1
      obtain rfl : i = S 0 0 := by omega
      have hR1 := hR.to f1
      refine e_iload_n dX11_helped_4 rfl 2 rfl ?_
      refine e_aload_n dX11_helped_5 rfl 0 rfl ?_
      refine e_getI dX11_helped_6 lkX11_95 tt_127 rfl ?_
      rw [hR1.1]
      refine e_icmp_ge (t := 50) dX11_helped_9 (by decide) (fun h9 => ?_) (fun h9 => ?_)
      · skip
        refine e_iload_n dX11_helped_50 rfl 1 rfl ?_
        refine e_reti dX11_helped_51 ev_nwi (Nat.le_refl _) (Nat.le_refl _) ?_
        exact ⟨rfl, f1, rfl⟩
      · skip
        exact absurd (show nI (S 0 0) ≤ nI (S 0 0) from (i_le (by omega) (by omega)).mpr (by omega)) h9
    | succ m ih =>
      intro i σ1 hi f1
      have hR1 := hR.to f1
      have hF1 := hF.to f1
      have hj := (hR1.2.2.2.1 i (by omega)).2.2.2.2.1
      refine e_iload_n dX11_helped_4 rfl 2 rfl ?_
      refine e_aload_n dX11_helped_5 rfl 0 rfl ?_
      refine e_getI dX11_helped_6 lkX11_95 tt_127 rfl ?_
      rw [hR1.1]
      refine e_icmp_ge (t := 50) dX11_helped_9 (by decide) (fun h9 => ?_) (fun h9 => ?_)
      · skip
        exact absurd ((i_le (by omega) (by omega)).mp (show nI (S 0 0) ≤ nI i from h9)) (by omega)
      · skip
        refine e_aload_n dX11_helped_12 rfl 0 rfl ?_
        refine e_getR dX11_helped_13 lkX11_33 tt_127 rfl ?_
        refine e_iload_n dX11_helped_16 rfl 2 rfl ?_
        refine e_iald dX11_helped_17 tt_135 (vp_in_nI (by omega) (by decide)) ?_
        rw [i_cl (by omega), hj]
        refine e_if_ne (t := 24) dX11_helped_18 (by decide) (fun h18 => ?_) (fun h18 => ?_)
        · skip
          have hm : (S 0 3).testBit i = true := by
            cases hb9 : (S 0 3).testBit i with
            | true => rfl
            | false => exact absurd (by rw [hb9]; rfl) h18
          refine e_aload_n dX11_helped_24 rfl 0 rfl ?_
          refine e_aload_n dX11_helped_25 rfl 0 rfl ?_
          refine e_callVi dX11_helped_26 cvX11_218 rfl tt_127 rfl (c11_there hV hR1) (Nat.le_of_ble_eq_true rfl) (Nat.le_refl _) (Nat.le_refl _) rfl (Nat.le_of_ble_eq_true rfl) (fun r26 s26 m26 q26 => ?_)
          obtain ⟨q26, e26, g26⟩ := q26
          rw [e26, g26]
          clear e26 g26 s26 m26
          refine e_iconst (v := 1) dX11_helped_29 rfl ?_
          refine e_iload_n dX11_helped_30 rfl 2 rfl ?_
          refine e_ishl dX11_helped_31 ?_
          rw [q26, i_shl1 (by omega)]
          refine e_callVi dX11_helped_32 cvX11_221 rfl tt_127 rfl (c11_tells hp hV (t := nthere S) (u := 2 ^ i) (by omega) (Nat.lt_of_lt_of_le (Nat.pow_lt_pow_right (by decide) (show i < S 0 0 by omega)) (by omega)) hF1 hR1) (Nat.le_of_ble_eq_true rfl) (Nat.le_refl _) (Nat.le_refl _) rfl (Nat.le_of_ble_eq_true rfl) (fun r32 s32 m32 q32 => ?_)
          obtain ⟨q32, a1, a2⟩ := q32
          rw [a2]
          refine e_if_eq (t := 44) dX11_helped_35 (by decide) (fun h35 => ?_) (fun h35 => ?_)
          · skip
            have hno : ¬ HasHelp p S i := fun q => by
              rw [q32, bI_eq0] at h35
              exact h35 q.2
            refine e_iinc (nI (i + 1)) [(0, .ref 127), (1, .int (nI (nset (HasHelp p S) i))), (2, .int (nI (i + 1)))] dX11_helped_44 2 rfl (nI_1 i) (by decide) rfl ?_
            refine e_goto (t := 4) dX11_helped_47 (by decide) ?_
            have h9 := ih (i + 1) _ (by omega) (f1.tr a1)
            rw [nset_f hno] at h9
            exact h9
          · skip
            have hyes : HasHelp p S i := ⟨hm, by rw [q32, bI_eq0] at h35; exact Classical.not_not.mp h35⟩
            refine e_iload_n dX11_helped_38 rfl 1 rfl ?_
            refine e_iconst (v := 1) dX11_helped_39 rfl ?_
            refine e_iload_n dX11_helped_40 rfl 2 rfl ?_
            refine e_ishl dX11_helped_41 ?_
            rw [i_shl1 (by omega)]
            refine e_ior dX11_helped_42 ?_
            rw [fa_or]
            refine e_istore_n [(0, .ref 127), (1, .int (nI (nset (HasHelp p S) i ||| 2 ^ i))), (2, .int (nI i))] dX11_helped_43 rfl (by decide) rfl ?_
            refine e_iinc (nI (i + 1)) [(0, .ref 127), (1, .int (nI (nset (HasHelp p S) i ||| 2 ^ i))), (2, .int (nI (i + 1)))] dX11_helped_44 2 rfl (nI_1 i) (by decide) rfl ?_
            refine e_goto (t := 4) dX11_helped_47 (by decide) ?_
            have h9 := ih (i + 1) _ (by omega) (f1.tr a1)
            rw [nset_t hyes] at h9
            exact h9
        · skip
          have hm : (S 0 3).testBit i = false := by
            cases hb9 : (S 0 3).testBit i with
            | false => rfl
            | true => exact absurd (show nI 1 = nI 0 from by rw [hb9] at h18; exact h18) (by decide)
          have hno : ¬ HasHelp p S i := fun q => by
            rw [q.1] at hm
            cases hm
          refine e_goto (t := 44) dX11_helped_21 (by decide) ?_
          refine e_iinc (nI (i + 1)) [(0, .ref 127), (1, .int (nI (nset (HasHelp p S) i))), (2, .int (nI (i + 1)))] dX11_helped_44 2 rfl (nI_1 i) (by decide) rfl ?_
          refine e_goto (t := 4) dX11_helped_47 (by decide) ?_
          have h9 := ih (i + 1) σ1 (by omega) f1
          rw [nset_f hno] at h9
          exact h9
  refine e_iconst (v := 0) dX11_helped_0 rfl ?_
  refine e_istore_n [(0, .ref 127), (1, .int 0)] dX11_helped_1 rfl (by decide) rfl ?_
  refine e_iconst (v := 0) dX11_helped_2 rfl ?_
  refine e_istore_n [(0, .ref 127), (1, .int 0), (2, .int 0)] dX11_helped_3 rfl (by decide) rfl ?_
  exact loop (S 0 0) 0 σ (by omega) FrM.rf

set_option maxRecDepth 100000 in
theorem c10_told {p : Nat} (hp : gP p) {S : ns_T} (hV : VS S) {w : Int32} {σ : ex_S} {μ : ex_L}(hF : FC σ p) (hC : NC σ 33 S) (hK : RKI σ p S) : Ci 7 yX10_told cX10_told 3 (some .int) [.ref 0, .int w] TT σ μ (fun z' σ' μ' => z' = ntold p S w ∧ σ' = σ ∧ μ' = μ) := by
  refine Cl_of (by decide +kernel) (Nat.le_of_ble_eq_true rfl) ?_
  show Ev RX10 cX10_told 3 7 0 0 "told" (some .int) ev_ext _ _ 0 0 0 [(0, .ref 0), (1, .int w)] [] TT σ μ
  refine e_aload_n dX10_told_0 rfl 0 rfl ?_
  refine e_getR dX10_told_1 lkX10_46 tt_0 rfl ?_
  refine e_getR dX10_told_4 lkX10_89 (store_0 store_32_) rfl ?_
  refine e_astore_n [(0, .ref 0), (1, .int w), (2, .ref 33)] dX10_told_7 rfl (by decide) rfl ?_
  refine e_iload_n dX10_told_8 rfl 1 rfl ?_
  by_cases k9_0 : w = 0
  · rw [k9_0]
    refine e_tswIn (t := 52) dX10_told_9 (by decide) (by decide) rfl (by decide) ?_
    refine e_aload_n dX10_told_52 rfl 0 rfl ?_
    refine e_getR dX10_told_53 lkX10_12 tt_0 rfl ?_
    refine e_getI dX10_told_56 lkX10_235 tt_1 rfl ?_
    refine e_reti dX10_told_59 ev_nwi (Nat.le_refl _) (Nat.le_refl _) ?_
    refine ⟨?_, rfl, rfl⟩
    unfold ntold
    rw [if_pos rfl]
    exact hF.1
  by_cases k9_1 : w = 1
  · rw [k9_1]
    refine e_tswIn (t := 60) dX10_told_9 (by decide) (by decide) rfl (by decide) ?_
    refine e_aload_n dX10_told_60 rfl 0 rfl ?_
    refine e_getR dX10_told_61 lkX10_12 tt_0 rfl ?_
    refine e_getI dX10_told_64 lkX10_100 tt_1 rfl ?_
    refine e_reti dX10_told_67 ev_nwi (Nat.le_refl _) (Nat.le_refl _) ?_
    refine ⟨?_, rfl, rfl⟩
    unfold ntold
    rw [if_neg (by decide), if_pos rfl]
    exact hF.2.1
  by_cases k9_2 : w = 2
  · rw [k9_2]
    refine e_tswIn (t := 68) dX10_told_9 (by decide) (by decide) rfl (by decide) ?_
    refine e_aload_n dX10_told_68 rfl 2 rfl ?_
    refine e_getI dX10_told_69 lkX10_229 (nodes_0 (store_n store_32_)) rfl ?_
    refine e_reti dX10_told_72 ev_nwi (Nat.le_refl _) (Nat.le_refl _) ?_
    refine ⟨?_, rfl, rfl⟩
    unfold ntold
    rw [if_neg (by decide), if_neg (by decide), if_pos rfl]
    exact hC.2.2.2.1
  by_cases k9_3 : w = 3
  · rw [k9_3]
    refine e_tswIn (t := 73) dX10_told_9 (by decide) (by decide) rfl (by decide) ?_
    refine e_aload_n dX10_told_73 rfl 0 rfl ?_
    refine e_callVi dX10_told_74 cvX10_238 rfl tt_0 rfl (c10_missingWithHelp hp hV hC hK) (Nat.le_of_ble_eq_true rfl) (Nat.le_refl _) (Nat.le_refl _) rfl (Nat.le_of_ble_eq_true rfl) (fun r74 s74 m74 q74 => ?_)
    obtain ⟨q74, e74, g74⟩ := q74
    rw [e74, g74]
    clear e74 g74 s74 m74
    refine e_reti dX10_told_77 ev_nwi (Nat.le_refl _) (Nat.le_refl _) ?_
    refine ⟨?_, rfl, rfl⟩
    unfold ntold
    rw [if_neg (by decide), if_neg (by decide), if_neg (by decide), if_pos rfl]
    exact q74
  by_cases k9_4 : w = 4
  · rw [k9_4]
    refine e_tswIn (t := 78) dX10_told_9 (by decide) (by decide) rfl (by decide) ?_
    refine e_aload_n dX10_told_78 rfl 0 rfl ?_
    refine e_getR dX10_told_79 lkX10_30 tt_0 rfl ?_
    refine e_aload_n dX10_told_82 rfl 2 rfl ?_
    refine e_callVi dX10_told_83 cvX10_241 rfl (nodes_0 (store_n store_32_)) rfl (c3_thereN nodes_33_ hV hC) (Nat.le_of_ble_eq_true rfl) (Nat.le_refl _) (Nat.le_refl _) rfl (Nat.le_of_ble_eq_true rfl) (fun r83 s83 m83 q83 => ?_)
    obtain ⟨q83, e83, g83⟩ := q83
    rw [e83, g83]
    clear e83 g83 s83 m83
    rw [q83]
    refine e_callVi dX10_told_86 cvX10_244 rfl tt_5 rfl (c6_rankN hp hV (t := nthere S) (nthere_lt hV) hK) (Nat.le_of_ble_eq_true rfl) (Nat.le_refl _) (Nat.le_refl _) rfl (Nat.le_of_ble_eq_true rfl) (fun r86 s86 m86 q86 => ?_)
    obtain ⟨q86, e86, g86⟩ := q86
    rw [e86, g86]
    clear e86 g86 s86 m86
    refine e_reti dX10_told_89 ev_nwi (Nat.le_refl _) (Nat.le_refl _) ?_
    refine ⟨?_, rfl, rfl⟩
    unfold ntold
    rw [if_neg (by decide), if_neg (by decide), if_neg (by decide), if_neg (by decide), if_pos rfl]
    exact q86
  by_cases k9_5 : w = 5
  · rw [k9_5]
    refine e_tswIn (t := 90) dX10_told_9 (by decide) (by decide) rfl (by decide) ?_
    refine e_aload_n dX10_told_90 rfl 0 rfl ?_
    refine e_aload_n dX10_told_91 rfl 2 rfl ?_
    refine e_callVi dX10_told_92 cvX10_241 rfl (nodes_0 (store_n store_32_)) rfl (c3_thereN nodes_33_ hV hC) (Nat.le_of_ble_eq_true rfl) (Nat.le_refl _) (Nat.le_refl _) rfl (Nat.le_of_ble_eq_true rfl) (fun r92 s92 m92 q92 => ?_)
    obtain ⟨q92, e92, g92⟩ := q92
    rw [e92, g92]
    clear e92 g92 s92 m92
    rw [q92]
    refine e_callVi dX10_told_95 cvX10_247 rfl tt_0 rfl (c10_tellAll hp hV (t := nthere S) (nthere_lt hV) hC hK) (Nat.le_of_ble_eq_true rfl) (Nat.le_refl _) (Nat.le_refl _) rfl (Nat.le_of_ble_eq_true rfl) (fun r95 s95 m95 q95 => ?_)
    obtain ⟨q95, e95, g95⟩ := q95
    rw [e95, g95]
    clear e95 g95 s95 m95
    refine e_if_eq (t := 105) dX10_told_98 (by decide) (fun h98 => ?_) (fun h98 => ?_)
    · skip
      refine e_iconst (v := 0) dX10_told_105 rfl ?_
      refine e_reti dX10_told_106 ev_nwi (Nat.le_refl _) (Nat.le_refl _) ?_
      refine ⟨?_, rfl, rfl⟩
      unfold ntold
      rw [if_neg (by decide), if_neg (by decide), if_neg (by decide), if_neg (by decide), if_neg (by decide), if_pos rfl]
      rw [q95] at h98
      exact (bI_f (fun z => by rw [bI_t z] at h98; exact absurd h98 (by decide))).symm
    · skip
      refine e_iconst (v := 1) dX10_told_101 rfl ?_
      refine e_goto (t := 106) dX10_told_102 (by decide) ?_
      refine e_reti dX10_told_106 ev_nwi (Nat.le_refl _) (Nat.le_refl _) ?_
      refine ⟨?_, rfl, rfl⟩
      unfold ntold
      rw [if_neg (by decide), if_neg (by decide), if_neg (by decide), if_neg (by decide), if_neg (by decide), if_pos rfl]
      rw [q95] at h98
      exact (bI_t (Classical.not_not.mp (fun z => h98 (bI_f z)))).symm
  by_cases k9_6 : w = 6
  · rw [k9_6]
    refine e_tswIn (t := 107) dX10_told_9 (by decide) (by decide) rfl (by decide) ?_
    refine e_aload_n dX10_told_107 rfl 0 rfl ?_
    refine e_callVi dX10_told_108 cvX10_250 rfl tt_0 rfl (c10_distance hp hV hC hK) (Nat.le_of_ble_eq_true rfl) (Nat.le_refl _) (Nat.le_refl _) rfl (Nat.le_of_ble_eq_true rfl) (fun r108 s108 m108 q108 => ?_)
    obtain ⟨q108, e108, g108⟩ := q108
    rw [e108, g108]
    clear e108 g108 s108 m108
    refine e_reti dX10_told_111 ev_nwi (Nat.le_refl _) (Nat.le_refl _) ?_
    refine ⟨?_, rfl, rfl⟩
    unfold ntold
    rw [if_neg (by decide), if_neg (by decide), if_neg (by decide), if_neg (by decide), if_neg (by decide), if_neg (by decide), if_pos rfl]
    exact q108
  refine e_tswOut (t := 112) dX10_told_9 (by
      have a0 := i32_ne k9_0
      have b0 : (0 : Int32).toInt = 0 := by decide
      have a1 := i32_ne k9_1
      have b1 : (1 : Int32).toInt = 1 := by decide
      have a2 := i32_ne k9_2
      have b2 : (2 : Int32).toInt = 2 := by decide
      have a3 := i32_ne k9_3
      have b3 : (3 : Int32).toInt = 3 := by decide
      have a4 := i32_ne k9_4
      have b4 : (4 : Int32).toInt = 4 := by decide
      have a5 := i32_ne k9_5
      have b5 : (5 : Int32).toInt = 5 := by decide
      have a6 := i32_ne k9_6
      have b6 : (6 : Int32).toInt = 6 := by decide
      omega) (by decide) ?_
  refine e_iconst (v := (-1)) dX10_told_112 rfl ?_
  refine e_reti dX10_told_113 ev_nwi (Nat.le_refl _) (Nat.le_refl _) ?_
  refine ⟨?_, rfl, rfl⟩
  unfold ntold
  rw [if_neg k9_0, if_neg k9_1, if_neg k9_2, if_neg k9_3, if_neg k9_4, if_neg k9_5, if_neg k9_6]

set_option maxRecDepth 100000 in
theorem c11_told {p : Nat} (hp : gP p) {S : ns_T} (hV : VS S) {w : Int32} {σ : ex_S} {μ : ex_L}(hF : FR σ p) (hR : NR σ S) : Ci 10 yX11_told cX11_told 2 (some .int) [.ref 127, .int w] TT σ μ (fun z' σ' μ' => z' = ntold p S w ∧ FrM σ σ' ∧ μ' = μ) := by
  refine Cl_of (by decide +kernel) (Nat.le_of_ble_eq_true rfl) ?_
  show Ev RX11 cX11_told 2 10 0 0 "told" (some .int) ev_ext _ _ 0 0 0 [(0, .ref 127), (1, .int w)] [] TT σ μ
  have hal := nall_lt hV
  have htl := nthere_lt hV
  have h2n := two_n hV
  refine e_iload_n dX11_told_0 rfl 1 rfl ?_
  by_cases k1_0 : w = 0
  · rw [k1_0]
    refine e_tswIn (t := 44) dX11_told_1 (by decide) (by decide) rfl (by decide) ?_
    refine e_aload_n dX11_told_44 rfl 0 rfl ?_
    refine e_getI dX11_told_45 lkX11_111 tt_127 rfl ?_
    refine e_reti dX11_told_48 ev_nwi (Nat.le_refl _) (Nat.le_refl _) ?_
    refine ⟨?_, FrM.rf, rfl⟩
    unfold ntold
    rw [if_pos rfl]
    exact hF.1
  by_cases k1_1 : w = 1
  · rw [k1_1]
    refine e_tswIn (t := 49) dX11_told_1 (by decide) (by decide) rfl (by decide) ?_
    refine e_aload_n dX11_told_49 rfl 0 rfl ?_
    refine e_getI dX11_told_50 lkX11_114 tt_127 rfl ?_
    refine e_reti dX11_told_53 ev_nwi (Nat.le_refl _) (Nat.le_refl _) ?_
    refine ⟨?_, FrM.rf, rfl⟩
    unfold ntold
    rw [if_neg (by decide), if_pos rfl]
    exact hF.2.1
  by_cases k1_2 : w = 2
  · rw [k1_2]
    refine e_tswIn (t := 54) dX11_told_1 (by decide) (by decide) rfl (by decide) ?_
    refine e_aload_n dX11_told_54 rfl 0 rfl ?_
    refine e_callVi dX11_told_55 cvX11_229 rfl tt_127 rfl (c11_allN hV hR) (Nat.le_of_ble_eq_true rfl) (Nat.le_refl _) (Nat.le_refl _) rfl (Nat.le_of_ble_eq_true rfl) (fun r55 s55 m55 q55 => ?_)
    obtain ⟨q55, e55, g55⟩ := q55
    rw [e55, g55]
    clear e55 g55 s55 m55
    refine e_aload_n dX11_told_58 rfl 0 rfl ?_
    refine e_callVi dX11_told_59 cvX11_218 rfl tt_127 rfl (c11_there hV hR) (Nat.le_of_ble_eq_true rfl) (Nat.le_refl _) (Nat.le_refl _) rfl (Nat.le_of_ble_eq_true rfl) (fun r59 s59 m59 q59 => ?_)
    obtain ⟨q59, e59, g59⟩ := q59
    rw [e59, g59]
    clear e59 g59 s59 m59
    refine e_iconst (v := (-1)) dX11_told_62 rfl ?_
    refine e_ixor dX11_told_63 ?_
    refine e_iand dX11_told_64 ?_
    refine e_reti dX11_told_65 ev_nwi (Nat.le_refl _) (Nat.le_refl _) ?_
    refine ⟨?_, FrM.rf, rfl⟩
    unfold ntold
    rw [if_neg (by decide), if_neg (by decide), if_pos rfl]
    rw [q55, q59, not_i _ _ (by omega), miss_back hV]
  by_cases k1_3 : w = 3
  · rw [k1_3]
    refine e_tswIn (t := 66) dX11_told_1 (by decide) (by decide) rfl (by decide) ?_
    refine e_aload_n dX11_told_66 rfl 0 rfl ?_
    refine e_callVi dX11_told_67 cvX11_239 rfl tt_127 rfl (c11_helped hp hV hF hR) (Nat.le_of_ble_eq_true rfl) (Nat.le_refl _) (Nat.le_refl _) rfl (Nat.le_of_ble_eq_true rfl) (fun r67 s67 m67 q67 => ?_)
    obtain ⟨q67, a1, a2⟩ := q67
    rw [a2]
    refine e_reti dX11_told_70 ev_nwi (Nat.le_refl _) (Nat.le_refl _) ?_
    refine ⟨?_, a1, rfl⟩
    unfold ntold
    rw [if_neg (by decide), if_neg (by decide), if_neg (by decide), if_pos rfl]
    exact q67
  by_cases k1_4 : w = 4
  · rw [k1_4]
    refine e_tswIn (t := 71) dX11_told_1 (by decide) (by decide) rfl (by decide) ?_
    refine e_aload_n dX11_told_71 rfl 0 rfl ?_
    refine e_aload_n dX11_told_72 rfl 0 rfl ?_
    refine e_callVi dX11_told_73 cvX11_218 rfl tt_127 rfl (c11_there hV hR) (Nat.le_of_ble_eq_true rfl) (Nat.le_refl _) (Nat.le_refl _) rfl (Nat.le_of_ble_eq_true rfl) (fun r73 s73 m73 q73 => ?_)
    obtain ⟨q73, e73, g73⟩ := q73
    rw [e73, g73]
    clear e73 g73 s73 m73
    rw [q73]
    refine e_callVi dX11_told_76 cvX11_215 rfl tt_127 rfl (c11_rankOf hp hV (t := nthere S) (by omega) hF hR) (Nat.le_of_ble_eq_true rfl) (Nat.le_refl _) (Nat.le_refl _) rfl (Nat.le_of_ble_eq_true rfl) (fun r76 s76 m76 q76 => ?_)
    obtain ⟨q76, a1, a2⟩ := q76
    rw [a2]
    refine e_reti dX11_told_79 ev_nwi (Nat.le_refl _) (Nat.le_refl _) ?_
    refine ⟨?_, a1, rfl⟩
    unfold ntold
    rw [if_neg (by decide), if_neg (by decide), if_neg (by decide), if_neg (by decide), if_pos rfl]
    exact q76
  by_cases k1_5 : w = 5
  · rw [k1_5]
    refine e_tswIn (t := 80) dX11_told_1 (by decide) (by decide) rfl (by decide) ?_
    refine e_aload_n dX11_told_80 rfl 0 rfl ?_
    refine e_aload_n dX11_told_81 rfl 0 rfl ?_
    refine e_callVi dX11_told_82 cvX11_218 rfl tt_127 rfl (c11_there hV hR) (Nat.le_of_ble_eq_true rfl) (Nat.le_refl _) (Nat.le_refl _) rfl (Nat.le_of_ble_eq_true rfl) (fun r82 s82 m82 q82 => ?_)
    obtain ⟨q82, e82, g82⟩ := q82
    rw [e82, g82]
    clear e82 g82 s82 m82
    refine e_aload_n dX11_told_85 rfl 0 rfl ?_
    
    refine e_callVi dX11_told_86 cvX11_232 rfl tt_127 rfl (c11_allData hV hR) (Nat.le_of_ble_eq_true rfl) (Nat.le_refl _) (Nat.le_refl _) rfl (Nat.le_of_ble_eq_true rfl) (fun r86 s86 m86 q86 => ?_)
    obtain ⟨q86, e86, g86⟩ := q86
    rw [e86, g86]
    clear e86 g86 s86 m86
    rw [q82, q86]
    refine e_callVi dX11_told_89 cvX11_221 rfl tt_127 rfl (c11_tells hp hV (t := nthere S) (u := S 0 2) (by omega) (by have := hV.2.2.2.2.1; omega) hF hR) (Nat.le_of_ble_eq_true rfl) (Nat.le_refl _) (Nat.le_refl _) rfl (Nat.le_of_ble_eq_true rfl) (fun r89 s89 m89 q89 => ?_)
    obtain ⟨q89, a1, a2⟩ := q89
    rw [a2]
    refine e_if_eq (t := 99) dX11_told_92 (by decide) (fun h92 => ?_) (fun h92 => ?_)
    · skip
      refine e_iconst (v := 0) dX11_told_99 rfl ?_
      refine e_reti dX11_told_100 ev_nwi (Nat.le_refl _) (Nat.le_refl _) ?_
      refine ⟨?_, a1, rfl⟩
      unfold ntold
      rw [if_neg (by decide), if_neg (by decide), if_neg (by decide), if_neg (by decide), if_neg (by decide), if_pos rfl]
      rw [q89] at h92
      exact (bI_f (fun z => by rw [bI_t z] at h92; exact absurd h92 (by decide))).symm
    · skip
      refine e_iconst (v := 1) dX11_told_95 rfl ?_
      refine e_goto (t := 100) dX11_told_96 (by decide) ?_
      refine e_reti dX11_told_100 ev_nwi (Nat.le_refl _) (Nat.le_refl _) ?_
      refine ⟨?_, a1, rfl⟩
      unfold ntold
      rw [if_neg (by decide), if_neg (by decide), if_neg (by decide), if_neg (by decide), if_neg (by decide), if_pos rfl]
      rw [q89] at h92
      exact (bI_t (Classical.not_not.mp (fun z => h92 (bI_f z)))).symm
  by_cases k1_6 : w = 6
  · rw [k1_6]
    refine e_tswIn (t := 101) dX11_told_1 (by decide) (by decide) rfl (by decide) ?_
    refine e_aload_n dX11_told_101 rfl 0 rfl ?_
    refine e_callVi dX11_told_102 cvX11_242 rfl tt_127 rfl (c11_distance hp hV hF hR) (Nat.le_of_ble_eq_true rfl) (Nat.le_refl _) (Nat.le_refl _) rfl (Nat.le_of_ble_eq_true rfl) (fun r102 s102 m102 q102 => ?_)
    obtain ⟨q102, a1, a2⟩ := q102
    rw [a2]
    refine e_reti dX11_told_105 ev_nwi (Nat.le_refl _) (Nat.le_refl _) ?_
    refine ⟨?_, a1, rfl⟩
    unfold ntold
    rw [if_neg (by decide), if_neg (by decide), if_neg (by decide), if_neg (by decide), if_neg (by decide), if_neg (by decide), if_pos rfl]
    exact q102
  refine e_tswOut (t := 106) dX11_told_1 (by
      have a0 := i32_ne k1_0
      have b0 : (0 : Int32).toInt = 0 := by decide
      have a1 := i32_ne k1_1
      have b1 : (1 : Int32).toInt = 1 := by decide
      have a2 := i32_ne k1_2
      have b2 : (2 : Int32).toInt = 2 := by decide
      have a3 := i32_ne k1_3
      have b3 : (3 : Int32).toInt = 3 := by decide
      have a4 := i32_ne k1_4
      have b4 : (4 : Int32).toInt = 4 := by decide
      have a5 := i32_ne k1_5
      have b5 : (5 : Int32).toInt = 5 := by decide
      have a6 := i32_ne k1_6
      have b6 : (6 : Int32).toInt = 6 := by decide
      omega) (by decide) ?_
  refine e_iconst (v := (-1)) dX11_told_106 rfl ?_
  refine e_reti dX11_told_107 ev_nwi (Nat.le_refl _) (Nat.le_refl _) ?_
  refine ⟨?_, FrM.rf, rfl⟩
  unfold ntold
  rw [if_neg k1_0, if_neg k1_1, if_neg k1_2, if_neg k1_3, if_neg k1_4, if_neg k1_5, if_neg k1_6]
