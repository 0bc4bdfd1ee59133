def nlost (S : ns_T) (f : Nat) : Prop := ∃ d, d < S 0 1 ∧ nib f d ≠ 0 ∧ (S 0 3).testBit (S 8 d) = true
noncomputable def nparity (p : Nat) (S : ns_T) (z : Nat) (X : Nat → Nat) (x y : Int32) : Int32 × ns_T × Nat := cif (0 ≤ x ∧ x ≤ 6) (cif (0 ≤ y ∧ y ≤ 9) (cif (S 0 0 < S 0 1 + 5) (cif ((npar p z X).1 = true) (cif (nlost S (npar p z X).2.2) (-3, S, 0) (nI (S 0 0), nnew S x.toNatClampNeg y.toNatClampNeg 9 (npar p z X).2.2, 0)) (-10 - nI (npar p z X).2.1, S, 0)) (-4, S, z)) (-2, S, z)) (-1, S, z)
theorem npar_b {p : Nat} (hp : gP p) {z : Nat} {X : Nat → Nat} : (npar p z X).2.1 ≤ z ∧ (npar p z X).2.2 < 2 ^ 20 := by
  have h : PB z 0 (smP p X z 4 0 1 0) := sm_b hp (Nat.zero_le z) (by decide) (by decide) 100
  exact ⟨h.2.1, h.2.2.1⟩
theorem ni_m5 {k : Nat} (h : k < 2 ^ 31) : ¬ nI k = -5 := hI_some h

set_option maxRecDepth 100000 in
theorem c3_needsMissing {b : Nat} (hN : NodesAt b) {S : ns_T} (hV : VS S) {f : Nat} (hf : f < 2 ^ 31) {σ : ex_S} {μ : ex_L}(hC : NC σ b S) : Ci 4 yX3_needsMissing cX3_needsMissing 3 (some .boolean) [.ref b, .int (nI f)] TT σ μ (fun z' σ' μ' => ((z' = 1 ∧ nlost S f) ∨ (z' = 0 ∧ ¬ nlost S f)) ∧ σ' = σ ∧ μ' = μ) := by
  refine Cl_of (by decide +kernel) (Nat.le_of_ble_eq_true rfl) ?_
  show Ev RX3 cX3_needsMissing 3 4 0 0 "needsMissing" (some .boolean) ev_ext _ _ 0 0 0 [(0, .ref b), (1, .int (nI f))] [] TT σ μ
  have hd := hV.2.1
  have loop : ∀ (m i : Nat), i + m = S 0 1 → (∀ d, d < i → ¬ (nib f d ≠ 0 ∧ (S 0 3).testBit (S 8 d) = true)) → Ev RX3 cX3_needsMissing 3 4 0 0 "needsMissing" (some .boolean) ev_ext TT.length (fun v9 T9 σ9 μ9 => T9 = TT ∧ ∃ z9, v9 = some (.int z9) ∧ (fun z' σ' μ' => ((z' = 1 ∧ nlost S f) ∨ (z' = 0 ∧ ¬ nlost S f)) ∧ σ' = σ ∧ μ' = μ) z9 σ9 μ9) 0 0 2 [(0, .ref b), (1, .int (nI f)), (2, .int (nI i))] [] TT σ μ := by
    intro m
    induction m with
    | zero =>
      intro i hi hno
      obtain rfl : i = S 0 1 := by omega
      refine e_iload_n dX3_needsMissing_2 rfl 2 rfl ?_
      refine e_aload_n dX3_needsMissing_3 rfl 0 rfl ?_
      refine e_getI dX3_needsMissing_4 lkX3_15 (nodes_0 hN) rfl ?_
      rw [hC.2.1]
      refine e_icmp_ge (t := 34) dX3_needsMissing_7 (by decide) (fun h7 => ?_) (fun h7 => ?_)
      · skip
        refine e_iconst (v := 0) dX3_needsMissing_34 rfl ?_
        refine e_reti dX3_needsMissing_35 ev_nw0 (Nat.le_refl _) (Nat.le_refl _) ?_
        exact ⟨Or.inr ⟨rfl, fun ⟨d, h1, h2⟩ => hno d h1 h2⟩, rfl, rfl⟩
      · skip
        exact absurd (show nI (S 0 1) ≤ nI (S 0 1) from (i_le (by omega) (by omega)).mpr (by omega)) h7
    | succ m ih =>
      intro i hi hno
      have hnb := nib_lt f i
      refine e_iload_n dX3_needsMissing_2 rfl 2 rfl ?_
      refine e_aload_n dX3_needsMissing_3 rfl 0 rfl ?_
      refine e_getI dX3_needsMissing_4 lkX3_15 (nodes_0 hN) rfl ?_
      rw [hC.2.1]
      refine e_icmp_ge (t := 34) dX3_needsMissing_7 (by decide) (fun h7 => ?_) (fun h7 => ?_)
      · skip
        exact absurd ((i_le (by omega) (by omega)).mp (show nI (S 0 1) ≤ nI i from h7)) (by omega)
      · skip
        refine e_iload_n dX3_needsMissing_10 rfl 1 rfl ?_
        refine e_iload_n dX3_needsMissing_11 rfl 2 rfl ?_
        refine e_callNi dX3_needsMissing_12 cnX3_72 nlX3_72 rfl (c10_numberAt (nI f) (nI i)) (Nat.le_of_ble_eq_true rfl) (Nat.le_refl _) (Nat.le_refl _) rfl (Nat.le_of_ble_eq_true rfl) (fun r12 s12 m12 q12 => ?_)
        obtain ⟨q12, e12, g12⟩ := q12
        rw [e12, g12]
        clear e12 g12 s12 m12
        rw [q12, i_nib hf (show i < 8 by omega)]
        refine e_if_eq (t := 28) dX3_needsMissing_15 (by decide) (fun h15 => ?_) (fun h15 => ?_)
        · skip
          skip
          refine e_iinc (nI (i + 1)) [(0, .ref b), (1, .int (nI f)), (2, .int (nI (i + 1)))] dX3_needsMissing_28 2 rfl (nI_1 i) (by decide) rfl ?_
          refine e_goto (t := 2) dX3_needsMissing_31 (by decide) ?_
          have hz0 : nib f i = 0 := (i_eq (b := 0) (by omega) (by decide)).mp h15
          exact ih (i + 1) (by omega) (fun d hd9 q => by
            by_cases e : d = i
            · rw [e] at q
              exact q.1 hz0
            · exact hno d (by omega) q)
        · skip
          have hz0 : nib f i ≠ 0 := fun q => h15 (by rw [q]; rfl)
          refine e_aload_n dX3_needsMissing_18 rfl 0 rfl ?_
          refine e_iload_n dX3_needsMissing_19 rfl 2 rfl ?_
          refine e_callVi dX3_needsMissing_20 cvX3_76 rfl (nodes_0 hN) rfl (c3_isDataMissing hN hV hC (e := i) (by omega)) (Nat.le_of_ble_eq_true rfl) (Nat.le_refl _) (Nat.le_refl _) rfl (Nat.le_of_ble_eq_true rfl) (fun r20 s20 m20 q20 => ?_)
          obtain ⟨q20, e20, g20⟩ := q20
          rw [e20, g20]
          clear e20 g20 s20 m20
          refine e_if_eq (t := 28) dX3_needsMissing_23 (by decide) (fun h23 => ?_) (fun h23 => ?_)
          · skip
            skip
            refine e_iinc (nI (i + 1)) [(0, .ref b), (1, .int (nI f)), (2, .int (nI (i + 1)))] dX3_needsMissing_28 2 rfl (nI_1 i) (by decide) rfl ?_
            refine e_goto (t := 2) dX3_needsMissing_31 (by decide) ?_
            rw [q20, bI_eq0] at h23
            exact ih (i + 1) (by omega) (fun d hd9 q => by
              by_cases e : d = i
              · rw [e] at q
                exact h23 q.2
              · exact hno d (by omega) q)
          · skip
            rw [q20, bI_eq0] at h23
            have hmm := Classical.not_not.mp h23
            refine e_iconst (v := 1) dX3_needsMissing_26 rfl ?_
            refine e_reti dX3_needsMissing_27 ev_nw1 (Nat.le_refl _) (Nat.le_refl _) ?_
            exact ⟨Or.inl ⟨rfl, i, by omega, hz0, hmm⟩, rfl, rfl⟩
  refine e_iconst (v := 0) dX3_needsMissing_0 rfl ?_
  refine e_istore_n [(0, .ref b), (1, .int (nI f)), (2, .int (nI 0))] dX3_needsMissing_1 rfl (by decide) rfl ?_
  exact loop (S 0 1) 0 (by omega) (fun d hd9 => absurd hd9 (by omega))

set_option maxRecDepth 100000 in
theorem c11_isLost {S : ns_T} (hV : VS S) {f : Nat} {σ : ex_S} {μ : ex_L}(hR : NR σ S) (hf : ∀ c, c < 5 → σ 141 c = nI (nib f c)) : Ci 2 yX11_isLost cX11_isLost 2 (some .boolean) [.ref 127] TT σ μ (fun z' σ' μ' => ((z' = 1 ∧ nlost S f) ∨ (z' = 0 ∧ ¬ nlost S f)) ∧ σ' = σ ∧ μ' = μ) := by
  refine Cl_of (by decide +kernel) (Nat.le_of_ble_eq_true rfl) ?_
  show Ev RX11 cX11_isLost 2 2 0 0 "isLost" (some .boolean) ev_ext _ _ 0 0 0 [(0, .ref 127)] [] TT σ μ
  have hd := hV.2.1
  have hn := hV.1
  have loop : ∀ (m i : Nat), i + m = S 0 1 → (∀ d, d < i → ¬ (nib f d ≠ 0 ∧ (S 0 3).testBit (S 8 d) = true)) → Ev RX11 cX11_isLost 2 2 0 0 "isLost" (some .boolean) ev_ext TT.length (fun v9 T9 σ9 μ9 => T9 = TT ∧ ∃ z9, v9 = some (.int z9) ∧ (fun z' σ' μ' => ((z' = 1 ∧ nlost S f) ∨ (z' = 0 ∧ ¬ nlost S f)) ∧ σ' = σ ∧ μ' = μ) z9 σ9 μ9) 0 0 2 [(0, .ref 127), (1, .int (nI i))] [] TT σ μ := by
    intro m
    induction m with
    | zero =>
      intro i hi hno
      obtain rfl : i = S 0 1 := by omega
      refine e_iload_n dX11_isLost_2 rfl 1 rfl ?_
      refine e_aload_n dX11_isLost_3 rfl 0 rfl ?_
      refine e_getI dX11_isLost_4 lkX11_134 tt_127 rfl ?_
      rw [hR.2.1]
      refine e_icmp_ge (t := 42) dX11_isLost_7 (by decide) (fun h7 => ?_) (fun h7 => ?_)
      · skip
        refine e_iconst (v := 0) dX11_isLost_42 rfl ?_
        refine e_reti dX11_isLost_43 ev_nw0 (Nat.le_refl _) (Nat.le_refl _) ?_
        exact ⟨Or.inr ⟨rfl, fun ⟨d, h1, h2⟩ => hno d h1 h2⟩, rfl, rfl⟩
      · skip
        exact absurd (show nI (S 0 1) ≤ nI (S 0 1) from (i_le (by omega) (by omega)).mpr (by omega)) h7
    | succ m ih =>
      intro i hi hno
      have hnb := nib_lt f i
      obtain ⟨u1, u2⟩ := hR.2.2.2.2 i (by omega)
      have ve := (hV.2.2.2.2.2.2.2 i (by omega)).1
      have um := (hR.2.2.2.1 _ ve).2.2.2.2.1
      refine e_iload_n dX11_isLost_2 rfl 1 rfl ?_
      refine e_aload_n dX11_isLost_3 rfl 0 rfl ?_
      refine e_getI dX11_isLost_4 lkX11_134 tt_127 rfl ?_
      rw [hR.2.1]
      refine e_icmp_ge (t := 42) dX11_isLost_7 (by decide) (fun h7 => ?_) (fun h7 => ?_)
      · skip
        exact absurd ((i_le (by omega) (by omega)).mp (show nI (S 0 1) ≤ nI i from h7)) (by omega)
      · skip
        refine e_aload_n dX11_isLost_10 rfl 0 rfl ?_
        refine e_getR dX11_isLost_11 lkX11_51 tt_127 rfl ?_
        refine e_iload_n dX11_isLost_14 rfl 1 rfl ?_
        refine e_iald dX11_isLost_15 tt_141 (vp_in_nI (by omega) (by decide)) ?_
        rw [i_cl (show i < 2 ^ 31 by omega), hf i (by omega)]
        refine e_if_eq (t := 36) dX11_isLost_16 (by decide) (fun h16 => ?_) (fun h16 => ?_)
        · skip
          skip
          refine e_iinc (nI (i + 1)) [(0, .ref 127), (1, .int (nI (i + 1)))] dX11_isLost_36 1 rfl (nI_1 i) (by decide) rfl ?_
          refine e_goto (t := 2) dX11_isLost_39 (by decide) ?_
          have hz0 : nib f i = 0 := (i_eq (b := 0) (by omega) (by decide)).mp h16
          exact ih (i + 1) (by omega) (fun d hd9 q => by
            by_cases e : d = i
            · rw [e] at q
              exact q.1 hz0
            · exact hno d (by omega) q)
        · skip
          have hz0 : nib f i ≠ 0 := fun q => h16 (by rw [q]; rfl)
          refine e_aload_n dX11_isLost_19 rfl 0 rfl ?_
          refine e_getR dX11_isLost_20 lkX11_33 tt_127 rfl ?_
          refine e_aload_n dX11_isLost_23 rfl 0 rfl ?_
          refine e_getR dX11_isLost_24 lkX11_45 tt_127 rfl ?_
          refine e_iload_n dX11_isLost_27 rfl 1 rfl ?_
          refine e_iald dX11_isLost_28 tt_139 (vp_in_nI (by omega) (by decide)) ?_
          rw [i_cl (show i < 2 ^ 31 by omega), u2]
          refine e_iald dX11_isLost_29 tt_135 (vp_in_nI (by omega) (by decide)) ?_
          rw [i_cl (show S 8 i < 2 ^ 31 by omega), um]
          refine e_iconst (v := 1) dX11_isLost_30 rfl ?_
          refine e_icmp_ne (t := 36) dX11_isLost_31 (by decide) (fun h31 => ?_) (fun h31 => ?_)
          · skip
            skip
            refine e_iinc (nI (i + 1)) [(0, .ref 127), (1, .int (nI (i + 1)))] dX11_isLost_36 1 rfl (nI_1 i) (by decide) rfl ?_
            refine e_goto (t := 2) dX11_isLost_39 (by decide) ?_
            skip
            exact ih (i + 1) (by omega) (fun d hd9 q => by
              by_cases e : d = i
              · rw [e] at q
                exact h31 (by rw [q.2]; rfl)
              · exact hno d (by omega) q)
          · skip
            have hmm : (S 0 3).testBit (S 8 i) = true := by
              cases hb9 : (S 0 3).testBit (S 8 i) with
              | true => rfl
              | false => rw [hb9] at h31; exact absurd h31 (by decide)
            refine e_iconst (v := 1) dX11_isLost_34 rfl ?_
            refine e_reti dX11_isLost_35 ev_nw1 (Nat.le_refl _) (Nat.le_refl _) ?_
            exact ⟨Or.inl ⟨rfl, i, by omega, hz0, hmm⟩, rfl, rfl⟩
  refine e_iconst (v := 0) dX11_isLost_0 rfl ?_
  refine e_istore_n [(0, .ref 127), (1, .int (nI 0))] dX11_isLost_1 rfl (by decide) rfl ?_
  exact loop (S 0 1) 0 (by omega) (fun d hd9 => absurd hd9 (by omega))

set_option maxRecDepth 100000 in
set_option maxHeartbeats 1000000 in
theorem c10_parity {p : Nat} (hp : gP p) {S : ns_T} (hV : VS S) {z : Nat} {X : Nat → Nat} (hX : ∀ i, i < z → X i < 128) (hz : z ≤ 100) {x y : Int32} {σ : ex_S} {μ : ex_L}(hF : FC σ p) (hC : NC σ 33 S) (hK : RKI σ p S) (h28 : SpV σ 28 (fun _ => 0) 0) (hT : TXC σ z X) : Ci 15 yX10_parity cX10_parity 5 (some .int) [.ref 0, .int x, .int y] TT σ μ (fun z' σ' μ' => z' = (nparity p S z X x y).1 ∧ NC σ' 33 (nparity p S z X x y).2.1 ∧ RKI σ' p (nparity p S z X x y).2.1 ∧ SpV σ' 28 (fun _ => 0) 0 ∧ TXC σ' (nparity p S z X x y).2.2 X ∧ (∀ i, i ≠ 3 → i ≠ 6 → (i < 8 ∨ 30 ≤ i) → (i < 33 ∨ 52 ≤ i) → σ' i = σ i) ∧ μ' = μ) := by
  refine Cl_of (by decide +kernel) (Nat.le_of_ble_eq_true rfl) ?_
  show Ev RX10 cX10_parity 5 15 0 0 "parity" (some .int) ev_ext _ _ 0 0 0 [(0, .ref 0), (1, .int x), (2, .int y)] [] TT σ μ
  have hn := hV.1
  have hd := hV.2.1
  have hdn := hV.2.2.1
  have h54 := hV.2.2.2.1
  refine e_iload_n dX10_parity_0 rfl 1 rfl ?_
  refine e_callSi dX10_parity_1 cvX10_124 rfl (c10_isKind x) (Nat.le_of_ble_eq_true rfl) (Nat.le_refl _) (Nat.le_refl _) rfl (Nat.le_of_ble_eq_true rfl) (fun r1 s1 m1 q1 => ?_)
  obtain ⟨q1, e1, g1⟩ := q1
  rw [e1, g1]
  clear e1 g1 s1 m1
  refine e_if_ne (t := 9) dX10_parity_4 (by decide) (fun h4 => ?_) (fun h4 => ?_)
  · skip
    rw [q1, bI_eq0] at h4
    have hP := k6.mp (Classical.not_not.mp h4)
    refine e_iload_n dX10_parity_9 rfl 2 rfl ?_
    refine e_callSi dX10_parity_10 cvX10_127 rfl (c10_isDigit y) (Nat.le_of_ble_eq_true rfl) (Nat.le_refl _) (Nat.le_refl _) rfl (Nat.le_of_ble_eq_true rfl) (fun r10 s10 m10 q10 => ?_)
    obtain ⟨q10, e10, g10⟩ := q10
    rw [e10, g10]
    clear e10 g10 s10 m10
    refine e_if_ne (t := 19) dX10_parity_13 (by decide) (fun h13 => ?_) (fun h13 => ?_)
    · skip
      rw [q10, bI_eq0] at h13
      have hW := Classical.not_not.mp h13
      refine e_aload_n dX10_parity_19 rfl 0 rfl ?_
      refine e_getR dX10_parity_20 lkX10_46 tt_0 rfl ?_
      refine e_getR dX10_parity_23 lkX10_89 (store_0 store_32_) rfl ?_
      refine e_getI dX10_parity_26 lkX10_92 (nodes_0 (store_n store_32_)) rfl ?_
      refine e_aload_n dX10_parity_29 rfl 0 rfl ?_
      refine e_getR dX10_parity_30 lkX10_46 tt_0 rfl ?_
      refine e_getR dX10_parity_33 lkX10_89 (store_0 store_32_) rfl ?_
      refine e_getI dX10_parity_36 lkX10_130 (nodes_0 (store_n store_32_)) rfl ?_
      rw [hC.1, hC.2.1]
      refine e_isub dX10_parity_39 ?_
      rw [i_sub hdn]
      refine e_iconst (v := 5) dX10_parity_40 rfl ?_
      refine e_icmp_lt (t := 47) dX10_parity_41 (by decide) (fun h41 => ?_) (fun h41 => ?_)
      · skip
        have h5 : S 0 0 < S 0 1 + 5 := by
          have := (i_lt (b := 5) (by omega) (by decide)).mp h41
          omega
        obtain ⟨k, hk, rfl⟩ := i_of (x := x) (m := 6) (by omega) hP.1 (show _ ≤ nI (6) from hP.2)
        obtain ⟨v, hv, rfl⟩ := i_of (x := y) (m := 9) (by omega) hW.1 (show _ ≤ nI (9) from hW.2)
        refine e_aload_n dX10_parity_47 rfl 0 rfl ?_
        refine e_getR dX10_parity_48 lkX10_21 tt_0 rfl ?_
        refine e_aload_n dX10_parity_51 rfl 0 rfl ?_
        refine e_getR dX10_parity_52 lkX10_12 tt_0 rfl ?_
        refine e_callVi dX10_parity_55 cvX10_144 rfl tt_3 rfl (c1_parse hp hX hz hT hF) (Nat.le_of_ble_eq_true rfl) (Nat.le_refl _) (Nat.le_refl _) rfl (Nat.le_of_ble_eq_true rfl) (fun r55 s55 m55 q55 => ?_)
        obtain ⟨q55, p55, g55⟩ := q55
        rw [g55]
        refine e_istore_n [(0, .ref 0), (1, .int (nI k)), (2, .int (nI v)), (3, .int r55)] dX10_parity_58 rfl (by decide) rfl ?_
        refine e_aload_n dX10_parity_59 rfl 0 rfl ?_
        refine e_getR dX10_parity_60 lkX10_21 tt_0 rfl ?_
        refine e_iconst (v := 0) dX10_parity_63 rfl ?_
        refine e_putI dX10_parity_64 lkX10_143' tt_3 rfl rfl rfl ?_
        refine e_iload_n dX10_parity_67 rfl 3 rfl ?_
        refine e_if_ne (t := 82) dX10_parity_68 (by decide) (fun h68 => ?_) (fun h68 => ?_)
        · skip
          have hfr : ∀ i, i ≠ 3 → sup s55 3 1 0 i = σ i := fun i hi => by rw [sup_obj hi]; exact p55.2.2.2 i hi
          have hC1 : NC (sup s55 3 1 0) 33 S := hC.to hV (fun i h1 h2 => hfr i (by omega))
          have hK1 : RKI (sup s55 3 1 0) p S := hK.to (hfr 6 (by decide))
          have h281 : SpV (sup s55 3 1 0) 28 (fun _ => 0) 0 := h28.to (hfr 28 (by decide)) (hfr 29 (by decide))
          have hF1 : FC (sup s55 3 1 0) p := hF.to (hfr 1 (by decide)) (hfr 2 (by decide))
          have hpb := npar_b hp (z := z) (X := X)
          have hfm : sup s55 3 1 0 3 2 = nI (npar p z X).2.2 := by rw [sup_idx (by decide)]; exact p55.1
          have hr1 : (npar p z X).1 = true := by
            cases h9 : (npar p z X).1 with
            | true => rfl
            | false => rw [q55, h9] at h68; exact absurd rfl h68
          refine e_aload_n dX10_parity_82 rfl 0 rfl ?_
          refine e_getR dX10_parity_83 lkX10_46 tt_0 rfl ?_
          refine e_getR dX10_parity_86 lkX10_89 (store_0 store_32_) rfl ?_
          refine e_aload_n dX10_parity_89 rfl 0 rfl ?_
          refine e_getR dX10_parity_90 lkX10_21 tt_0 rfl ?_
          refine e_getI dX10_parity_93 lkX10_151 tt_3 rfl ?_
          rw [hfm]
          refine e_callVi dX10_parity_96 cvX10_154 rfl (nodes_0 (store_n store_32_)) rfl (c3_needsMissing nodes_33_ hV (f := (npar p z X).2.2) (by omega) hC1) (Nat.le_of_ble_eq_true rfl) (Nat.le_refl _) (Nat.le_refl _) rfl (Nat.le_of_ble_eq_true rfl) (fun r96 s96 m96 q96 => ?_)
          obtain ⟨q96, e96, g96⟩ := q96
          rw [e96, g96]
          refine e_if_eq (t := 105) dX10_parity_99 (by decide) (fun h99 => ?_) (fun h99 => ?_)
          · skip
            have hlo : ¬ nlost S (npar p z X).2.2 := by
              rcases q96 with q | q
              · exact absurd (q.1.symm.trans h99) (by decide)
              · exact q.2
            have hV1 : VS (nnew S k v 9 (npar p z X).2.2) := hV.par h5 (by omega) hv hpb.2
            have hf5 : ∀ j, j < S 0 0 → nnew S k v 9 (npar p z X).2.2 5 j = S 5 j := fun j hj => nnew_e (by decide) (Or.inl (by omega)) (by omega)
            refine e_aload_n dX10_parity_105 rfl 0 rfl ?_
            refine e_getR dX10_parity_106 lkX10_46 tt_0 rfl ?_
            refine e_getR dX10_parity_109 lkX10_89 (store_0 store_32_) rfl ?_
            refine e_iload_n dX10_parity_112 rfl 1 rfl ?_
            refine e_iload_n dX10_parity_113 rfl 2 rfl ?_
            refine e_aload_n dX10_parity_114 rfl 0 rfl ?_
            refine e_getR dX10_parity_115 lkX10_21 tt_0 rfl ?_
            refine e_getI dX10_parity_118 lkX10_151 tt_3 rfl ?_
            rw [hfm]
            refine e_callVi dX10_parity_121 cvX10_157 rfl (nodes_0 (store_n store_32_)) rfl (c3_addParity nodes_33_ (k := k) (v := v) (f := (npar p z X).2.2) (by omega) hC1) (Nat.le_of_ble_eq_true rfl) (Nat.le_refl _) (Nat.le_refl _) rfl (Nat.le_of_ble_eq_true rfl) (fun r121 s121 m121 q121 => ?_)
            obtain ⟨q121, a1, a2, a3⟩ := q121
            rw [a3]
            rw [q121]
            refine e_istore [(0, .ref 0), (1, .int (nI k)), (2, .int (nI v)), (3, .int r55), (4, .int (nI (S 0 0)))] dX10_parity_124 (by decide) rfl ?_
            refine e_aload_n dX10_parity_126 rfl 0 rfl ?_
            refine e_getR dX10_parity_127 lkX10_30 tt_0 rfl ?_
            refine e_aload_n dX10_parity_130 rfl 0 rfl ?_
            refine e_getR dX10_parity_131 lkX10_46 tt_0 rfl ?_
            refine e_getR dX10_parity_134 lkX10_89 (store_0 store_32_) rfl ?_
            refine e_iload dX10_parity_137 4 rfl ?_
            refine e_callVv dX10_parity_139 cvX10_136 rfl tt_5 rfl (c6_extend nodes_33_ (by decide) hp hV1 nnew_00 (hF1.to (a2 1 (by decide)) (a2 2 (by decide))) a1 (h281.frame (fun i hi => a2 i (by omega))) ((hK1.to (a2 6 (by decide))).pre nnew_00 hf5)) (Nat.le_of_ble_eq_true rfl) (Nat.le_refl _) (Nat.le_refl _) rfl (Nat.le_of_ble_eq_true rfl) (fun s139 m139 q139 => ?_)
            obtain ⟨b1, b2, b3, b4⟩ := q139
            rw [b4]
            refine e_iload dX10_parity_142 4 rfl ?_
            refine e_reti dX10_parity_144 ev_nwi (Nat.le_refl _) (Nat.le_refl _) ?_
            have hr : nparity p S z X (nI k) (nI v) = (nI (S 0 0), nnew S k v 9 (npar p z X).2.2, 0) := by
              unfold nparity
              rw [cif_t hP, cif_t hW, cif_t h5, cif_t hr1, cif_f hlo, i_cl (show k < 2 ^ 31 by omega), i_cl (show v < 2 ^ 31 by omega)]
            rw [hr]
            exact ⟨rfl, a1.to hV1 (fun i h1 h2 => b1 i (by omega) (by omega)), RKI.post (S' := nnew S k v 9 (npar p z X).2.2) nnew_00 b3, b2, ⟨by rw [b1 3 (by decide) (by decide), a2 3 (by decide), sup_same]; rfl, fun i hi => absurd hi (Nat.not_lt_zero i)⟩, fun i h0 h1 h2 h3 => by rw [b1 i h1 h2, a2 i (by omega)]; exact hfr i h0, rfl⟩
          · skip
            have hlo : nlost S (npar p z X).2.2 := by
              rcases q96 with q | q
              · exact q.2
              · exact absurd q.1 h99
            refine e_bipush (v := (-3)) dX10_parity_102 rfl ?_
            refine e_reti dX10_parity_104 ev_nwi (Nat.le_refl _) (Nat.le_refl _) ?_
            have hr : nparity p S z X (nI k) (nI v) = (-3, S, 0) := by
              unfold nparity
              rw [cif_t hP, cif_t hW, cif_t h5, cif_t hr1, cif_t hlo]
            rw [hr]
            exact ⟨rfl, hC1, hK1, h281, ⟨by rw [sup_same]; rfl, fun i hi => absurd hi (Nat.not_lt_zero i)⟩, fun i h1 _ _ _ => hfr i h1, rfl⟩
        · skip
          have hfr : ∀ i, i ≠ 3 → sup s55 3 1 0 i = σ i := fun i hi => by rw [sup_obj hi]; exact p55.2.2.2 i hi
          have hC1 : NC (sup s55 3 1 0) 33 S := hC.to hV (fun i h1 h2 => hfr i (by omega))
          have hK1 : RKI (sup s55 3 1 0) p S := hK.to (hfr 6 (by decide))
          have h281 : SpV (sup s55 3 1 0) 28 (fun _ => 0) 0 := h28.to (hfr 28 (by decide)) (hfr 29 (by decide))
          have hF1 : FC (sup s55 3 1 0) p := hF.to (hfr 1 (by decide)) (hfr 2 (by decide))
          have hpb := npar_b hp (z := z) (X := X)
          have hfm : sup s55 3 1 0 3 2 = nI (npar p z X).2.2 := by rw [sup_idx (by decide)]; exact p55.1
          have hr1 : ¬ (npar p z X).1 = true := fun q => by
            rw [q55, q] at h68
            exact absurd h68 (by decide)
          refine e_bipush (v := (-10)) dX10_parity_71 rfl ?_
          refine e_aload_n dX10_parity_73 rfl 0 rfl ?_
          refine e_getR dX10_parity_74 lkX10_21 tt_0 rfl ?_
          refine e_getI dX10_parity_77 lkX10_148 tt_3 rfl ?_
          rw [sup_idx (by decide), show s55 3 3 = nI (npar p z X).2.1 from p55.2.1]
          refine e_isub dX10_parity_80 ?_
          refine e_reti dX10_parity_81 ev_nwi (Nat.le_refl _) (Nat.le_refl _) ?_
          have hr : nparity p S z X (nI k) (nI v) = (-10 - nI (npar p z X).2.1, S, 0) := by
            unfold nparity
            rw [cif_t hP, cif_t hW, cif_t h5, cif_f hr1]
          rw [hr]
          exact ⟨rfl, hC1, hK1, h281, ⟨by rw [sup_same]; rfl, fun i hi => absurd hi (Nat.not_lt_zero i)⟩, fun i h1 _ _ _ => hfr i h1, rfl⟩
      · skip
        have h5 : ¬ S 0 0 < S 0 1 + 5 := fun q => h41 ((i_lt (b := 5) (by omega) (by decide)).mpr (by omega))
        refine e_bipush (v := (-4)) dX10_parity_44 rfl ?_
        refine e_reti dX10_parity_46 ev_nwi (Nat.le_refl _) (Nat.le_refl _) ?_
        have hr : nparity p S z X x y = (-4, S, z) := by
          unfold nparity
          rw [cif_t hP, cif_t hW, cif_f h5]
        rw [hr]
        exact ⟨rfl, hC, hK, h28, hT, fun _ _ _ _ _ => rfl, rfl⟩
    · skip
      rw [q10] at h13
      have h13 := bI_eq0.mp h13
      refine e_bipush (v := (-2)) dX10_parity_16 rfl ?_
      refine e_reti dX10_parity_18 ev_nwi (Nat.le_refl _) (Nat.le_refl _) ?_
      have hr : nparity p S z X x y = (-2, S, z) := by
        unfold nparity
        rw [cif_t hP, cif_f h13]
      rw [hr]
      exact ⟨rfl, hC, hK, h28, hT, fun _ _ _ _ _ => rfl, rfl⟩
  · skip
    rw [q1] at h4
    have h4 := bI_eq0.mp h4
    refine e_iconst (v := (-1)) dX10_parity_7 rfl ?_
    refine e_reti dX10_parity_8 ev_nwi (Nat.le_refl _) (Nat.le_refl _) ?_
    have hr : nparity p S z X x y = (-1, S, z) := by
      unfold nparity
      rw [cif_f (fun z => h4 (k6.mpr z))]
    rw [hr]
    exact ⟨rfl, hC, hK, h28, hT, fun _ _ _ _ _ => rfl, rfl⟩

set_option maxHeartbeats 2000000 in
set_option maxRecDepth 100000 in
theorem c11_parity {p : Nat} (hp : gP p) {S : ns_T} (hV : VS S) {z : Nat} {X : Nat → Nat} (hX : ∀ i, i < z → X i < 128) (hz : z ≤ 100) {x y : Int32} {σ : ex_S} {μ : ex_L}(hF : FR σ p) (hR : NR σ S) (hT : TXR σ z X) : Ci 13 yX11_parity cX11_parity 6 (some .int) [.ref 127, .int x, .int y] TT σ μ (fun z' σ' μ' => z' = (nparity p S z X x y).1 ∧ NR σ' (nparity p S z X x y).2.1 ∧ TXR σ' (nparity p S z X x y).2.2 X ∧ (∀ i, (i < 127 ∨ (127 < i ∧ i < 131) ∨ 137 < i) → i ≠ 141 → σ' i = σ i) ∧ (∀ k, k ≠ 5 → k ≠ 6 → k ≠ 7 → k ≠ 17 → k ≠ 19 → k ≠ 20 → σ' 127 k = σ 127 k) ∧ μ' = μ) := by
  refine Cl_of (by decide +kernel) (Nat.le_of_ble_eq_true rfl) ?_
  show Ev RX11 cX11_parity 6 13 0 0 "parity" (some .int) ev_ext _ _ 0 0 0 [(0, .ref 127), (1, .int x), (2, .int y)] [] TT σ μ
  have hn := hV.1
  have hd := hV.2.1
  have hdn := hV.2.2.1
  have h54 := hV.2.2.2.1
  have hpb := npar_b hp (z := z) (X := X)
  have loop2 : ∀ (k v : Nat) (w : Int32) (σ2 : ex_S), nparity p S z X x y = (nI (S 0 0), nnew S k v 9 (npar p z X).2.2, 0) → S 0 0 < 10 → (∀ σ3 : ex_S, (∀ i, i ≠ 136 → σ3 i = σ2 i) → (∀ i, i < 5 * S 0 0 → σ3 136 i = σ2 136 i) → (∀ q, q < 5 → σ3 136 (5 * S 0 0 + q) = nI (nib (npar p z X).2.2 q)) → NR σ3 (nnew S k v 9 (npar p z X).2.2)) → TXR σ2 0 X → (∀ c, c < 5 → σ2 141 c = nI (nib (npar p z X).2.2 c)) → (∀ i, (i < 127 ∨ (127 < i ∧ i < 131) ∨ 137 < i) → i ≠ 141 → σ2 i = σ i) → (∀ k, k ≠ 5 → k ≠ 6 → k ≠ 7 → k ≠ 17 → k ≠ 19 → k ≠ 20 → σ2 127 k = σ 127 k) → ∀ (m c : Nat) (σ3 : ex_S), c + m = 5 → (∀ i, i ≠ 136 → σ3 i = σ2 i) → (∀ i, i < 5 * S 0 0 → σ3 136 i = σ2 136 i) → (∀ q, q < c → σ3 136 (5 * S 0 0 + q) = nI (nib (npar p z X).2.2 q)) → Ev RX11 cX11_parity 6 13 0 0 "parity" (some .int) ev_ext TT.length (fun v9 T9 σ9 μ9 => T9 = TT ∧ ∃ z9, v9 = some (.int z9) ∧ (fun z' σ' μ' => z' = (nparity p S z X x y).1 ∧ NR σ' (nparity p S z X x y).2.1 ∧ TXR σ' (nparity p S z X x y).2.2 X ∧ (∀ i, (i < 127 ∨ (127 < i ∧ i < 131) ∨ 137 < i) → i ≠ 141 → σ' i = σ i) ∧ (∀ k, k ≠ 5 → k ≠ 6 → k ≠ 7 → k ≠ 17 → k ≠ 19 → k ≠ 20 → σ' 127 k = σ 127 k) ∧ μ' = μ) z9 σ9 μ9) 0 0 141 [(0, .ref 127), (1, .int (nI k)), (2, .int (nI v)), (3, .int w), (4, .int (nI (S 0 0))), (5, .int (nI c))] [] TT σ3 μ := by
    intro k v w σ2 hr hn10 b1 b2 b3 b4 b5 m
    induction m with
    | zero =>
      intro c σ3 hc f1 f2 f3
      obtain rfl : c = 5 := by omega
      refine e_iload dX11_parity_141 5 rfl ?_
      refine e_iconst (v := 5) dX11_parity_143 rfl ?_
      refine e_icmp_ge (t := 172) dX11_parity_144 (by decide) (fun h144 => ?_) (fun h144 => ?_)
      · skip
        refine e_iload dX11_parity_172 4 rfl ?_
        refine e_reti dX11_parity_174 ev_nwi (Nat.le_refl _) (Nat.le_refl _) ?_
        rw [hr]
        exact ⟨rfl, b1 σ3 f1 f2 f3, ⟨by rw [f1 127 (by decide)]; exact b2.1, fun i hi => absurd hi (Nat.not_lt_zero i)⟩, fun i h1 h2 => by rw [f1 i (by omega)]; exact b4 i h1 h2, fun k c1 c2 c3 c4 c5 c6 => by rw [f1 127 (by decide)]; exact b5 k c1 c2 c3 c4 c5 c6, rfl⟩
      · skip
        exact absurd (show nI 5 ≤ nI 5 from (i_le (by omega) (by omega)).mpr (by omega)) h144
    | succ m ih =>
      intro c σ3 hc f1 f2 f3
      refine e_iload dX11_parity_141 5 rfl ?_
      refine e_iconst (v := 5) dX11_parity_143 rfl ?_
      refine e_icmp_ge (t := 172) dX11_parity_144 (by decide) (fun h144 => ?_) (fun h144 => ?_)
      · skip
        exact absurd ((i_le (by omega) (by omega)).mp (show nI 5 ≤ nI c from h144)) (by omega)
      · skip
        refine e_aload_n dX11_parity_147 rfl 0 rfl ?_
        refine e_getR dX11_parity_148 lkX11_36 tt_127 rfl ?_
        refine e_iconst (v := 5) dX11_parity_151 rfl ?_
        refine e_iload dX11_parity_152 4 rfl ?_
        refine e_imul dX11_parity_154 ?_
        refine e_iload dX11_parity_155 5 rfl ?_
        refine e_iadd dX11_parity_157 ?_
        rw [i_lin5]
        refine e_aload_n dX11_parity_158 rfl 0 rfl ?_
        refine e_getR dX11_parity_159 lkX11_51 tt_127 rfl ?_
        refine e_iload dX11_parity_162 5 rfl ?_
        refine e_iald dX11_parity_164 tt_141 (vp_in_nI (by omega) (by decide)) ?_
        rw [i_cl (show c < 2 ^ 31 by omega), f1 141 (by decide), b3 c (by omega)]
        refine e_iast dX11_parity_165 tt_136 (vp_in_nI (by omega) (by decide)) ?_
        refine e_iinc (nI (c + 1)) [(0, .ref 127), (1, .int (nI k)), (2, .int (nI v)), (3, .int w), (4, .int (nI (S 0 0))), (5, .int (nI (c + 1)))] dX11_parity_166 5 rfl (nI_1 c) (by decide) rfl ?_
        refine e_goto (t := 141) dX11_parity_169 (by decide) ?_
        rw [i_cl (show 5 * S 0 0 + c < 2 ^ 31 by omega)]
        refine ih (c + 1) _ (by omega) (fun i hi => by rw [sup_obj hi]; exact f1 i hi) (fun i hi => by rw [sup_idx (by omega)]; exact f2 i hi) (fun q hq => ?_)
        by_cases e : q = c
        · rw [e, sup_same]
        · rw [sup_idx (by omega)]
          exact f3 q (by omega)
  have loop1 : ∀ (k v : Nat), x = nI k → y = nI v → k ≤ 6 → v ≤ 9 → 0 ≤ x ∧ x ≤ 6 → 0 ≤ y ∧ y ≤ 9 → S 0 0 < S 0 1 + 5 → ∀ (m c : Nat) (σ1 : ex_S), c + m = 5 → (∀ i, i ≠ 127 → i ≠ 141 → σ1 i = σ i) → (∀ k, k ≠ 19 → k ≠ 20 → σ1 127 k = σ 127 k) → σ1 127 19 = 0 → σ1 127 20 = 0 → (∀ q, q < c → σ1 141 q = 0) → Ev RX11 cX11_parity 6 13 0 0 "parity" (some .int) ev_ext TT.length (fun v9 T9 σ9 μ9 => T9 = TT ∧ ∃ z9, v9 = some (.int z9) ∧ (fun z' σ' μ' => z' = (nparity p S z X x y).1 ∧ NR σ' (nparity p S z X x y).2.1 ∧ TXR σ' (nparity p S z X x y).2.2 X ∧ (∀ i, (i < 127 ∨ (127 < i ∧ i < 131) ∨ 137 < i) → i ≠ 141 → σ' i = σ i) ∧ (∀ k, k ≠ 5 → k ≠ 6 → k ≠ 7 → k ≠ 17 → k ≠ 19 → k ≠ 20 → σ' 127 k = σ 127 k) ∧ μ' = μ) z9 σ9 μ9) 0 0 48 [(0, .ref 127), (1, .int (nI k)), (2, .int (nI v)), (3, .int (nI c))] [] TT σ1 μ := by
    intro k v hxk hyv hk hv hP hW h5 m
    have hk2 : (x.toNatClampNeg = k) := by rw [hxk]; exact i_cl (by omega)
    have hv2 : (y.toNatClampNeg = v) := by rw [hyv]; exact i_cl (by omega)
    induction m with
    | zero =>
      intro c σ1 hc f1 f2 f3 f4 f5
      obtain rfl : c = 5 := by omega
      have hFT : FrT σ σ1 := ⟨f1, f2⟩
      refine e_iload_n dX11_parity_48 rfl 3 rfl ?_
      refine e_iconst (v := 5) dX11_parity_49 rfl ?_
      refine e_icmp_ge (t := 66) dX11_parity_50 (by decide) (fun h50 => ?_) (fun h50 => ?_)
      · skip
        refine e_aload_n dX11_parity_66 rfl 0 rfl ?_
        refine e_iconst (v := 1) dX11_parity_67 rfl ?_
        refine e_callVi dX11_parity_68 cvX11_159 rfl tt_127 rfl ((c11_all2 hp hX hz 4 (by decide)).2 0 1 0 σ1 μ (hT.fT hFT) (hF.fT hFT) ⟨f3, f4, fun c hc => by rw [f5 c hc]; show 0 = nI (nib 0 c); rw [nib_0]; rfl⟩ (Nat.zero_le _) (by decide) (by decide)) (Nat.le_of_ble_eq_true rfl) (Nat.le_refl _) (Nat.le_refl _) rfl (Nat.le_of_ble_eq_true rfl) (fun r68 s68 m68 q68 => ?_)
        obtain ⟨q68, p68, f68, g68⟩ := q68
        rw [g68]
        have hpl : s68 127 19 = nI (smP p X z 4 0 1 0).2.1 := p68.1
        have hsz : s68 127 17 = nI z := by rw [f68.2 17 (by decide) (by decide), f2 17 (by decide) (by decide)]; exact hT.1
        refine e_if_eq (t := 89) dX11_parity_71 (by decide) (fun h71 => ?_) (fun h71 => ?_)
        · skip
          have e1 : (smP p X z 4 0 1 0).1 = false := by
            cases h9 : (smP p X z 4 0 1 0).1 with
            | false => rfl
            | true => rw [q68, h9] at h71; exact absurd h71 (by decide)
          have hr1 : (npar p z X).1 = false := by
            show ((smP p X z 4 0 1 0).1 && _) = false
            rw [e1]
            rfl
          refine e_iconst (v := 0) dX11_parity_89 rfl ?_
          refine e_istore_n [(0, .ref 127), (1, .int (nI k)), (2, .int (nI v)), (3, .int 0)] dX11_parity_90 rfl (by decide) rfl ?_
          refine e_aload_n dX11_parity_91 rfl 0 rfl ?_
          refine e_iconst (v := 0) dX11_parity_92 rfl ?_
          refine e_putI dX11_parity_93 lkX11_140' tt_127 rfl rfl rfl ?_
          refine e_iload_n dX11_parity_96 rfl 3 rfl ?_
          refine e_if_ne (t := 108) dX11_parity_97 (by decide) (fun h97 => ?_) (fun h97 => ?_)
          · skip
            exact absurd rfl h97
          · skip
            have hb : PB z 0 (smP p X z 4 0 1 0) := sm_b hp (Nat.zero_le z) (by decide) (by decide) 100
            have fr : ∀ i, i ≠ 127 → i ≠ 141 → sup s68 127 17 0 i = σ i := fun i h1 h2 => by rw [sup_obj h1, f68.1 i h1 h2]; exact f1 i h1 h2
            have fk : ∀ k, k ≠ 17 → k ≠ 19 → k ≠ 20 → sup s68 127 17 0 127 k = σ 127 k := fun k h1 h2 h3 => by rw [sup_idx h1, f68.2 k h2 h3]; exact f2 k h2 h3
            have hR1 : NR (sup s68 127 17 0) S := hR.to2 (fun i h1 h2 => fr i (by omega) (by omega)) (fun k h1 h2 => fk k (by omega) (by omega) (by omega))
            have hT1 : TXR (sup s68 127 17 0) 0 X := ⟨by rw [sup_same]; rfl, fun i hi => absurd hi (Nat.not_lt_zero i)⟩
            have hsm : ∀ c, c < 5 → sup s68 127 17 0 141 c = nI (nib (npar p z X).2.2 c) := fun c hc => by rw [sup_obj (by decide)]; exact p68.2.2 c hc
            refine e_bipush (v := (-10)) dX11_parity_100 rfl ?_
            refine e_aload_n dX11_parity_102 rfl 0 rfl ?_
            refine e_getI dX11_parity_103 lkX11_143 tt_127 rfl ?_
            rw [sup_idx (show (19 : Nat) ≠ 17 by decide), show s68 127 19 = nI (npar p z X).2.1 from p68.1]
            refine e_isub dX11_parity_106 ?_
            refine e_reti dX11_parity_107 ev_nwi (Nat.le_refl _) (Nat.le_refl _) ?_
            have hr : nparity p S z X x y = (-10 - nI (npar p z X).2.1, S, 0) := by
              unfold nparity
              rw [cif_t hP, cif_t hW, cif_t h5, cif_f (fun q => by rw [hr1] at q; cases q)]
            rw [hr]
            exact ⟨rfl, hR1, hT1, fun i h1 h2 => fr i (by omega) h2, fun k c1 c2 c3 c4 c5 c6 => fk k c4 c5 c6, rfl⟩
        · skip
          have e1 : (smP p X z 4 0 1 0).1 = true := by
            cases h9 : (smP p X z 4 0 1 0).1 with
            | true => rfl
            | false => rw [q68, h9] at h71; exact absurd rfl h71
          have hb1 : (smP p X z 4 0 1 0).2.1 ≤ z := hpb.1
          refine e_aload_n dX11_parity_74 rfl 0 rfl ?_
          refine e_getI dX11_parity_75 lkX11_143 tt_127 rfl ?_
          refine e_aload_n dX11_parity_78 rfl 0 rfl ?_
          refine e_getI dX11_parity_79 lkX11_140 tt_127 rfl ?_
          rw [hpl, hsz]
          refine e_icmp_ne (t := 89) dX11_parity_82 (by decide) (fun h82 => ?_) (fun h82 => ?_)
          · skip
            have hr1 : (npar p z X).1 = false := by
              show ((smP p X z 4 0 1 0).1 && _) = false
              rw [e1, decide_eq_false (fun q => h82 (by rw [q]))]
              rfl
            refine e_iconst (v := 0) dX11_parity_89 rfl ?_
            refine e_istore_n [(0, .ref 127), (1, .int (nI k)), (2, .int (nI v)), (3, .int 0)] dX11_parity_90 rfl (by decide) rfl ?_
            refine e_aload_n dX11_parity_91 rfl 0 rfl ?_
            refine e_iconst (v := 0) dX11_parity_92 rfl ?_
            refine e_putI dX11_parity_93 lkX11_140' tt_127 rfl rfl rfl ?_
            refine e_iload_n dX11_parity_96 rfl 3 rfl ?_
            refine e_if_ne (t := 108) dX11_parity_97 (by decide) (fun h97 => ?_) (fun h97 => ?_)
            · skip
              exact absurd rfl h97
            · skip
              have hb : PB z 0 (smP p X z 4 0 1 0) := sm_b hp (Nat.zero_le z) (by decide) (by decide) 100
              have fr : ∀ i, i ≠ 127 → i ≠ 141 → sup s68 127 17 0 i = σ i := fun i h1 h2 => by rw [sup_obj h1, f68.1 i h1 h2]; exact f1 i h1 h2
              have fk : ∀ k, k ≠ 17 → k ≠ 19 → k ≠ 20 → sup s68 127 17 0 127 k = σ 127 k := fun k h1 h2 h3 => by rw [sup_idx h1, f68.2 k h2 h3]; exact f2 k h2 h3
              have hR1 : NR (sup s68 127 17 0) S := hR.to2 (fun i h1 h2 => fr i (by omega) (by omega)) (fun k h1 h2 => fk k (by omega) (by omega) (by omega))
              have hT1 : TXR (sup s68 127 17 0) 0 X := ⟨by rw [sup_same]; rfl, fun i hi => absurd hi (Nat.not_lt_zero i)⟩
              have hsm : ∀ c, c < 5 → sup s68 127 17 0 141 c = nI (nib (npar p z X).2.2 c) := fun c hc => by rw [sup_obj (by decide)]; exact p68.2.2 c hc
              refine e_bipush (v := (-10)) dX11_parity_100 rfl ?_
              refine e_aload_n dX11_parity_102 rfl 0 rfl ?_
              refine e_getI dX11_parity_103 lkX11_143 tt_127 rfl ?_
              rw [sup_idx (show (19 : Nat) ≠ 17 by decide), show s68 127 19 = nI (npar p z X).2.1 from p68.1]
              refine e_isub dX11_parity_106 ?_
              refine e_reti dX11_parity_107 ev_nwi (Nat.le_refl _) (Nat.le_refl _) ?_
              have hr : nparity p S z X x y = (-10 - nI (npar p z X).2.1, S, 0) := by
                unfold nparity
                rw [cif_t hP, cif_t hW, cif_t h5, cif_f (fun q => by rw [hr1] at q; cases q)]
              rw [hr]
              exact ⟨rfl, hR1, hT1, fun i h1 h2 => fr i (by omega) h2, fun k c1 c2 c3 c4 c5 c6 => fk k c4 c5 c6, rfl⟩
          · skip
            have hr1 : (npar p z X).1 = true := by
              show ((smP p X z 4 0 1 0).1 && _) = true
              rw [e1, decide_eq_true ((i_eq (by omega) (by omega)).mp h82)]
              rfl
            refine e_iconst (v := 1) dX11_parity_85 rfl ?_
            refine e_goto (t := 90) dX11_parity_86 (by decide) ?_
            refine e_istore_n [(0, .ref 127), (1, .int (nI k)), (2, .int (nI v)), (3, .int 1)] dX11_parity_90 rfl (by decide) rfl ?_
            refine e_aload_n dX11_parity_91 rfl 0 rfl ?_
            refine e_iconst (v := 0) dX11_parity_92 rfl ?_
            refine e_putI dX11_parity_93 lkX11_140' tt_127 rfl rfl rfl ?_
            refine e_iload_n dX11_parity_96 rfl 3 rfl ?_
            refine e_if_ne (t := 108) dX11_parity_97 (by decide) (fun h97 => ?_) (fun h97 => ?_)
            · skip
              have hb : PB z 0 (smP p X z 4 0 1 0) := sm_b hp (Nat.zero_le z) (by decide) (by decide) 100
              have fr : ∀ i, i ≠ 127 → i ≠ 141 → sup s68 127 17 0 i = σ i := fun i h1 h2 => by rw [sup_obj h1, f68.1 i h1 h2]; exact f1 i h1 h2
              have fk : ∀ k, k ≠ 17 → k ≠ 19 → k ≠ 20 → sup s68 127 17 0 127 k = σ 127 k := fun k h1 h2 h3 => by rw [sup_idx h1, f68.2 k h2 h3]; exact f2 k h2 h3
              have hR1 : NR (sup s68 127 17 0) S := hR.to2 (fun i h1 h2 => fr i (by omega) (by omega)) (fun k h1 h2 => fk k (by omega) (by omega) (by omega))
              have hT1 : TXR (sup s68 127 17 0) 0 X := ⟨by rw [sup_same]; rfl, fun i hi => absurd hi (Nat.not_lt_zero i)⟩
              have hsm : ∀ c, c < 5 → sup s68 127 17 0 141 c = nI (nib (npar p z X).2.2 c) := fun c hc => by rw [sup_obj (by decide)]; exact p68.2.2 c hc
              refine e_aload_n dX11_parity_108 rfl 0 rfl ?_
              refine e_callVi dX11_parity_109 cvX11_165 rfl tt_127 rfl (c11_isLost hV (f := (npar p z X).2.2) hR1 hsm) (Nat.le_of_ble_eq_true rfl) (Nat.le_refl _) (Nat.le_refl _) rfl (Nat.le_of_ble_eq_true rfl) (fun r109 s109 m109 q109 => ?_)
              obtain ⟨q109, e109, g109⟩ := q109
              rw [e109, g109]
              refine e_if_eq (t := 118) dX11_parity_112 (by decide) (fun h112 => ?_) (fun h112 => ?_)
              · skip
                have hlo : ¬ nlost S (npar p z X).2.2 := by
                  rcases q109 with q | q
                  · exact absurd (q.1.symm.trans h112) (by decide)
                  · exact q.2
                refine e_aload_n dX11_parity_118 rfl 0 rfl ?_
                refine e_dup dX11_parity_119 rfl ?_
                refine e_getI dX11_parity_120 lkX11_162 tt_127 rfl ?_
                rw [hR1.2.2.1]
                refine e_iconst (v := 1) dX11_parity_123 rfl ?_
                refine e_iadd dX11_parity_124 ?_
                rw [nI_1 (S 0 0 - S 0 1)]
                refine e_putI dX11_parity_125 lkX11_162' tt_127 rfl rfl rfl ?_
                refine e_aload_n dX11_parity_128 rfl 0 rfl ?_
                refine e_iload_n dX11_parity_129 rfl 1 rfl ?_
                refine e_iload_n dX11_parity_130 rfl 2 rfl ?_
                refine e_bipush (v := (-5)) dX11_parity_131 rfl ?_
                refine e_callVi dX11_parity_133 cvX11_137 rfl tt_127 rfl (c11_newNode (n := S 0 0) (k := k) (v := v) (w := -5) (by omega) (by rw [sup_idx (by decide)]; exact hR1.1)) (Nat.le_of_ble_eq_true rfl) (Nat.le_refl _) (Nat.le_refl _) rfl (Nat.le_of_ble_eq_true rfl) (fun r133 s133 m133 q133 => ?_)
                obtain ⟨q133, ⟨n0, n1, n2, n3, n4, n5, n6, n7, n8, n9, na⟩, a3⟩ := q133
                rw [a3]
                rw [q133]
                refine e_istore [(0, .ref 127), (1, .int (nI k)), (2, .int (nI v)), (3, .int 1), (4, .int (nI (S 0 0)))] dX11_parity_136 (by decide) rfl ?_
                refine e_iconst (v := 0) dX11_parity_138 rfl ?_
                refine e_istore [(0, .ref 127), (1, .int (nI k)), (2, .int (nI v)), (3, .int 1), (4, .int (nI (S 0 0))), (5, .int (nI 0))] dX11_parity_139 (by decide) rfl ?_
                have hr : nparity p S z X x y = (nI (S 0 0), nnew S k v 9 (npar p z X).2.2, 0) := by
                  unfold nparity
                  rw [cif_t hP, cif_t hW, cif_t h5, cif_t hr1, cif_f hlo, hk2, hv2]
                exact loop2 k v _ s133 hr (by omega) (fun σ3 g1 g2 g3 => NR.new hV (by omega) hR (by rw [g1 127 (by decide)]; exact n0.1) (by rw [g1 127 (by decide), n0.2 6 (by decide), sup_idx (by decide)]; exact fk 6 (by decide) (by decide) (by decide)) (by rw [g1 127 (by decide), n0.2 7 (by decide), sup_same]; congr 1; omega)
                  ⟨by rw [g1 131 (by decide)]; exact n1.1, fun j hj => by rw [g1 131 (by decide), n1.2 j hj, sup_obj (by decide)]; exact congrFun (fr 131 (by decide) (by decide)) j⟩ ⟨by rw [g1 132 (by decide)]; exact n2.1, fun j hj => by rw [g1 132 (by decide), n2.2 j hj, sup_obj (by decide)]; exact congrFun (fr 132 (by decide) (by decide)) j⟩ ⟨by rw [g1 133 (by decide)]; exact n3.1, fun j hj => by rw [g1 133 (by decide), n3.2 j hj, sup_obj (by decide)]; exact congrFun (fr 133 (by decide) (by decide)) j⟩ ⟨by rw [g1 134 (by decide)]; exact n4.1, fun j hj => by rw [g1 134 (by decide), n4.2 j hj, sup_obj (by decide)]; exact congrFun (fr 134 (by decide) (by decide)) j⟩ ⟨by rw [g1 135 (by decide)]; exact n5.1, fun j hj => by rw [g1 135 (by decide), n5.2 j hj, sup_obj (by decide)]; exact congrFun (fr 135 (by decide) (by decide)) j⟩
                  (fun i hi => by rw [g2 i hi, n6 i (Or.inl hi), sup_obj (by decide)]; exact congrFun (fr 136 (by decide) (by decide)) i) g3 (fun i hi => by rw [g1 137 (by decide), n8 i (Or.inl hi), sup_obj (by decide)]; exact congrFun (fr 137 (by decide) (by decide)) i) (fun c hc => by rw [g1 137 (by decide)]; exact n9 c hc) (by rw [g1 138 (by decide), na 138 (by decide), sup_obj (by decide)]; exact fr 138 (by decide) (by decide)) (by rw [g1 139 (by decide), na 139 (by decide), sup_obj (by decide)]; exact fr 139 (by decide) (by decide))) ⟨by rw [n0.2 17 (by decide), sup_idx (by decide), sup_same]; rfl, fun i hi => absurd hi (Nat.not_lt_zero i)⟩ (fun c hc => by rw [na 141 (by decide), sup_obj (by decide)]; exact hsm c hc) (fun i h1 h2 => by rw [na i h1, sup_obj (by omega)]; exact fr i (by omega) h2) (fun k c1 c2 c3 c4 c5 c6 => by rw [n0.2 k c1, sup_idx c3]; exact fk k c4 c5 c6) 5 0 s133 (by omega) (fun _ _ => rfl) (fun _ _ => rfl) (fun q hq => absurd hq (by omega))
              · skip
                have hlo : nlost S (npar p z X).2.2 := by
                  rcases q109 with q | q
                  · exact q.2
                  · exact absurd q.1 h112
                refine e_bipush (v := (-3)) dX11_parity_115 rfl ?_
                refine e_reti dX11_parity_117 ev_nwi (Nat.le_refl _) (Nat.le_refl _) ?_
                have hr : nparity p S z X x y = (-3, S, 0) := by
                  unfold nparity
                  rw [cif_t hP, cif_t hW, cif_t h5, cif_t hr1, cif_t hlo]
                rw [hr]
                exact ⟨rfl, hR1, hT1, fun i h1 h2 => fr i (by omega) h2, fun k c1 c2 c3 c4 c5 c6 => fk k c4 c5 c6, rfl⟩
            · skip
              exact absurd h97 (by decide)
      · skip
        exact absurd (show nI 5 ≤ nI 5 from (i_le (by omega) (by omega)).mpr (by omega)) h50
    | succ m ih =>
      intro c σ1 hc f1 f2 f3 f4 f5
      refine e_iload_n dX11_parity_48 rfl 3 rfl ?_
      refine e_iconst (v := 5) dX11_parity_49 rfl ?_
      refine e_icmp_ge (t := 66) dX11_parity_50 (by decide) (fun h50 => ?_) (fun h50 => ?_)
      · skip
        exact absurd ((i_le (by omega) (by omega)).mp (show nI 5 ≤ nI c from h50)) (by omega)
      · skip
        refine e_aload_n dX11_parity_53 rfl 0 rfl ?_
        refine e_getR dX11_parity_54 lkX11_51 tt_127 rfl ?_
        refine e_iload_n dX11_parity_57 rfl 3 rfl ?_
        refine e_iconst (v := 0) dX11_parity_58 rfl ?_
        refine e_iast dX11_parity_59 tt_141 (vp_in_nI (by omega) (by decide)) ?_
        refine e_iinc (nI (c + 1)) [(0, .ref 127), (1, .int (nI k)), (2, .int (nI v)), (3, .int (nI (c + 1)))] dX11_parity_60 3 rfl (nI_1 c) (by decide) rfl ?_
        refine e_goto (t := 48) dX11_parity_63 (by decide) ?_
        rw [i_cl (show c < 2 ^ 31 by omega)]
        refine ih (c + 1) _ (by omega) (fun i h1 h2 => by rw [sup_obj h2]; exact f1 i h1 h2) (fun k h1 h2 => by rw [sup_obj (by decide)]; exact f2 k h1 h2) (by rw [sup_obj (by decide)]; exact f3) (by rw [sup_obj (by decide)]; exact f4) (fun q hq => ?_)
        by_cases e : q = c
        · rw [e, sup_same]
        · rw [sup_idx e]
          exact f5 q (by omega)
  refine e_iload_n dX11_parity_0 rfl 1 rfl ?_
  refine e_iconst (v := 0) dX11_parity_1 rfl ?_
  refine e_bipush (v := 6) dX11_parity_2 rfl ?_
  refine e_callSi dX11_parity_4 cvX11_99 rfl (c11_within x 0 6) (Nat.le_of_ble_eq_true rfl) (Nat.le_refl _) (Nat.le_refl _) rfl (Nat.le_of_ble_eq_true rfl) (fun r4 s4 m4 q4 => ?_)
  obtain ⟨q4, e4, g4⟩ := q4
  rw [e4, g4]
  clear e4 g4 s4 m4
  refine e_if_ne (t := 12) dX11_parity_7 (by decide) (fun h7 => ?_) (fun h7 => ?_)
  · skip
    rw [q4, bI_eq0] at h7
    have hP := Classical.not_not.mp h7
    refine e_iload_n dX11_parity_12 rfl 2 rfl ?_
    refine e_iconst (v := 0) dX11_parity_13 rfl ?_
    refine e_bipush (v := 9) dX11_parity_14 rfl ?_
    refine e_callSi dX11_parity_16 cvX11_99 rfl (c11_within y 0 9) (Nat.le_of_ble_eq_true rfl) (Nat.le_refl _) (Nat.le_refl _) rfl (Nat.le_of_ble_eq_true rfl) (fun r16 s16 m16 q16 => ?_)
    obtain ⟨q16, e16, g16⟩ := q16
    rw [e16, g16]
    clear e16 g16 s16 m16
    refine e_if_ne (t := 25) dX11_parity_19 (by decide) (fun h19 => ?_) (fun h19 => ?_)
    · skip
      rw [q16, bI_eq0] at h19
      have hW := Classical.not_not.mp h19
      refine e_aload_n dX11_parity_25 rfl 0 rfl ?_
      refine e_getI dX11_parity_26 lkX11_162 tt_127 rfl ?_
      refine e_iconst (v := 5) dX11_parity_29 rfl ?_
      refine e_icmp_ne (t := 36) dX11_parity_30 (by decide) (fun h30 => ?_) (fun h30 => ?_)
      · skip
        rw [hR.2.2.1] at h30
        have h5 : S 0 0 < S 0 1 + 5 := by
          have : ¬ S 0 0 - S 0 1 = 5 := fun q => h30 (by rw [q]; rfl)
          omega
        obtain ⟨k, hk, rfl⟩ := i_of (x := x) (m := 6) (by omega) hP.1 (show _ ≤ nI (6) from hP.2)
        obtain ⟨v, hv, rfl⟩ := i_of (x := y) (m := 9) (by omega) hW.1 (show _ ≤ nI (9) from hW.2)
        refine e_aload_n dX11_parity_36 rfl 0 rfl ?_
        refine e_iconst (v := 0) dX11_parity_37 rfl ?_
        refine e_putI dX11_parity_38 lkX11_143' tt_127 rfl rfl rfl ?_
        refine e_aload_n dX11_parity_41 rfl 0 rfl ?_
        refine e_iconst (v := 0) dX11_parity_42 rfl ?_
        refine e_putI dX11_parity_43 lkX11_153' tt_127 rfl rfl rfl ?_
        refine e_iconst (v := 0) dX11_parity_46 rfl ?_
        refine e_istore_n [(0, .ref 127), (1, .int (nI k)), (2, .int (nI v)), (3, .int (nI 0))] dX11_parity_47 rfl (by decide) rfl ?_
        exact loop1 k v rfl rfl hk hv hP hW h5 5 0 _ (by omega) (fun i h1 h2 => by rw [sup_obj h1, sup_obj h1]) (fun k h1 h2 => by rw [sup_idx h2, sup_idx h1]) (by rw [sup_idx (by decide), sup_same]) sup_same (fun q hq => absurd hq (by omega))
      · skip
        rw [hR.2.2.1] at h30
        have h5 : ¬ S 0 0 < S 0 1 + 5 := by
          have := (i_eq (b := 5) (by omega) (by decide)).mp h30
          omega
        refine e_bipush (v := (-4)) dX11_parity_33 rfl ?_
        refine e_reti dX11_parity_35 ev_nwi (Nat.le_refl _) (Nat.le_refl _) ?_
        have hr : nparity p S z X x y = (-4, S, z) := by
          unfold nparity
          rw [cif_t hP, cif_t hW, cif_f h5]
        rw [hr]
        exact ⟨rfl, hR, hT, fun _ _ _ => rfl, fun _ _ _ _ _ _ _ => rfl, rfl⟩
    · skip
      rw [q16] at h19
      have h19 := bI_eq0.mp h19
      refine e_bipush (v := (-2)) dX11_parity_22 rfl ?_
      refine e_reti dX11_parity_24 ev_nwi (Nat.le_refl _) (Nat.le_refl _) ?_
      have hr : nparity p S z X x y = (-2, S, z) := by
        unfold nparity
        rw [cif_t hP, cif_f h19]
      rw [hr]
      exact ⟨rfl, hR, hT, fun _ _ _ => rfl, fun _ _ _ _ _ _ _ => rfl, rfl⟩
  · skip
    rw [q4] at h7
    have h7 := bI_eq0.mp h7
    refine e_iconst (v := (-1)) dX11_parity_10 rfl ?_
    refine e_reti dX11_parity_11 ev_nwi (Nat.le_refl _) (Nat.le_refl _) ?_
    have hr : nparity p S z X x y = (-1, S, z) := by
      unfold nparity
      rw [cif_f h7]
    rw [hr]
    exact ⟨rfl, hR, hT, fun _ _ _ => rfl, fun _ _ _ _ _ _ _ => rfl, rfl⟩
