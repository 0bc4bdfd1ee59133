theorem lt_4 {q : Int32} : q < 4 ↔ q ≤ 3 := by
  rw [Int32.lt_iff_toInt_lt, Int32.le_iff_toInt_le]
  have : (4 : Int32).toInt = 4 := by decide
  have : (3 : Int32).toInt = 3 := by decide
  omega
theorem lt_7 {q : Int32} : q < 7 ↔ q ≤ 6 := by
  rw [Int32.lt_iff_toInt_lt, Int32.le_iff_toInt_le]
  have : (7 : Int32).toInt = 7 := by decide
  have : (6 : Int32).toInt = 6 := by decide
  omega
theorem nlt_0 {x : Int32} (h : x < 0) : ¬ 0 ≤ x := fun q => by
  have a1 := Int32.lt_iff_toInt_lt.mp h
  have a2 := Int32.le_iff_toInt_le.mp q
  omega
noncomputable def nrow (S : ns_T) (x q v : Int32) : out_T := cif (0 ≤ x ∧ x < nI (S 0 0)) (cif (0 ≤ q ∧ q ≤ 3) (cif (0 ≤ v ∧ v ≤ 9) (cif (S 1 x.toNatClampNeg = 6)
  (nI (S (20 + x.toNatClampNeg) q.toNatClampNeg), nup S (20 + x.toNatClampNeg) q.toNatClampNeg v.toNatClampNeg) (-3, S)) (-2, S)) (-1, S)) (-1, S)
theorem nhas {S : ns_T} (hV : VS S) {k : Nat} (hk : k < S 0 0) : 0 ≤ nI k ∧ nI k < nI (S 0 0) := by
  have := hV.1
  exact ⟨i_nn (by omega), (i_lt (by omega) (by omega)).mpr hk⟩

set_option maxRecDepth 100000 in
theorem c10_row {S : ns_T} (hV : VS S) {x q v : Int32} {σ : ex_S} {μ : ex_L}(hC : NC σ 33 S) : Ci 5 yX10_row cX10_row 5 (some .int) [.ref 0, .int x, .int q, .int v] TT σ μ (fun z' σ' μ' => z' = (nrow S x q v).1 ∧ NC σ' 33 (nrow S x q v).2 ∧ (∀ i, (i < 33 ∨ 52 ≤ i) → σ' i = σ i) ∧ μ' = μ) := by
  refine Cl_of (by decide +kernel) (Nat.le_of_ble_eq_true rfl) ?_
  show Ev RX10 cX10_row 5 5 0 0 "row" (some .int) ev_ext _ _ 0 0 0 [(0, .ref 0), (1, .int x), (2, .int q), (3, .int v)] [] TT σ μ
  have hn := hV.1
  have h2n := two_n hV
  refine e_aload_n dX10_row_0 rfl 0 rfl ?_
  refine e_getR dX10_row_1 lkX10_46 tt_0 rfl ?_
  refine e_getR dX10_row_4 lkX10_89 (store_0 store_32_) rfl ?_
  refine e_iload_n dX10_row_7 rfl 1 rfl ?_
  refine e_callVi dX10_row_8 cvX10_165 rfl (nodes_0 (store_n store_32_)) rfl (c3_hasN nodes_33_ hC x) (Nat.le_of_ble_eq_true rfl) (Nat.le_refl _) (Nat.le_refl _) rfl (Nat.le_of_ble_eq_true rfl) (fun r8 s8 m8 q8 => ?_)
  obtain ⟨q8, e8, g8⟩ := q8
  rw [e8, g8]
  clear e8 g8 s8 m8
  refine e_if_eq (t := 23) dX10_row_11 (by decide) (fun h11 => ?_) (fun h11 => ?_)
  · skip
    rw [q8, bI_eq0] at h11
    refine e_iconst (v := (-1)) dX10_row_23 rfl ?_
    refine e_reti dX10_row_24 ev_nwi (Nat.le_refl _) (Nat.le_refl _) ?_
    have hr : nrow S x q v = (-1, S) := by
      unfold nrow
      rw [cif_f h11]
    rw [hr]
    exact ⟨rfl, hC, fun _ _ => rfl, rfl⟩
  · skip
    rw [q8, bI_eq0] at h11
    have hP := Classical.not_not.mp h11
    refine e_iload_n dX10_row_14 rfl 2 rfl ?_
    refine e_if_lt (t := 23) dX10_row_15 (by decide) (fun h15 => ?_) (fun h15 => ?_)
    · skip
      skip
      refine e_iconst (v := (-1)) dX10_row_23 rfl ?_
      refine e_reti dX10_row_24 ev_nwi (Nat.le_refl _) (Nat.le_refl _) ?_
      have hr : nrow S x q v = (-1, S) := by
        unfold nrow
        rw [cif_t hP, cif_f (fun z => nlt_0 h15 z.1)]
      rw [hr]
      exact ⟨rfl, hC, fun _ _ => rfl, rfl⟩
    · skip
      refine e_iload_n dX10_row_18 rfl 2 rfl ?_
      refine e_iconst (v := 4) dX10_row_19 rfl ?_
      refine e_icmp_lt (t := 25) dX10_row_20 (by decide) (fun h20 => ?_) (fun h20 => ?_)
      · skip
        have hQ : 0 ≤ q ∧ q ≤ 3 := ⟨fa_of_nlt h15, lt_4.mp h20⟩
        refine e_iload_n dX10_row_25 rfl 3 rfl ?_
        refine e_callSi dX10_row_26 cvX10_127 rfl (c10_isDigit v) (Nat.le_of_ble_eq_true rfl) (Nat.le_refl _) (Nat.le_refl _) rfl (Nat.le_of_ble_eq_true rfl) (fun r26 s26 m26 q26 => ?_)
        obtain ⟨q26, e26, g26⟩ := q26
        rw [e26, g26]
        clear e26 g26 s26 m26
        refine e_if_ne (t := 35) dX10_row_29 (by decide) (fun h29 => ?_) (fun h29 => ?_)
        · skip
          rw [q26, bI_eq0] at h29
          have hW := Classical.not_not.mp h29
          obtain ⟨k, hk, rfl⟩ := i_ofl (x := x) (m := S 0 0) (by omega) hP.1 (show _ < nI (S 0 0) from hP.2)
          obtain ⟨u1, u2, u3, u4, u5, u6⟩ := hC.2.2.2.2.1 k hk
          have hk7 := (hV.2.2.2.2.2.2.1 k hk).1
          refine e_aload_n dX10_row_35 rfl 0 rfl ?_
          refine e_getR dX10_row_36 lkX10_46 tt_0 rfl ?_
          refine e_getR dX10_row_39 lkX10_89 (store_0 store_32_) rfl ?_
          refine e_getR dX10_row_42 lkX10_168 (nodes_0 (store_n store_32_)) rfl ?_
          refine e_iload_n dX10_row_45 rfl 1 rfl ?_
          refine e_iald dX10_row_46 (nodes_1 (store_n store_32_)) (vp_in_nI (by omega) (by decide)) ?_
          refine e_bipush (v := 6) dX10_row_47 rfl ?_
          refine e_icmp_eq (t := 55) dX10_row_49 (by decide) (fun h49 => ?_) (fun h49 => ?_)
          · skip
            rw [i_cl (by omega), u1] at h49
            have hkd : S 1 k = 6 := (i_eq (by omega) (by decide)).mp h49
            obtain ⟨c, hc, rfl⟩ := i_of (x := q) (m := 3) (by omega) hQ.1 (show _ ≤ nI (3) from hQ.2)
            obtain ⟨u, hu, rfl⟩ := i_of (x := v) (m := 9) (by omega) hW.1 (show _ ≤ nI (9) from hW.2)
            refine e_aload_n dX10_row_55 rfl 0 rfl ?_
            refine e_getR dX10_row_56 lkX10_46 tt_0 rfl ?_
            refine e_getR dX10_row_59 lkX10_89 (store_0 store_32_) rfl ?_
            refine e_getR dX10_row_62 lkX10_171 (nodes_0 (store_n store_32_)) rfl ?_
            refine e_iload_n dX10_row_65 rfl 1 rfl ?_
            refine e_aald dX10_row_66 (nodes_6 (store_n store_32_)) (Or.inl rfl) (vp_in_nI (by omega) (by decide)) (by rw [i_cl (by omega)]; exact nodes_rowAt 33 (by omega)) ?_
            refine e_iload_n dX10_row_67 rfl 2 rfl ?_
            refine e_iald dX10_row_68 (nodes_row nodes_33_ (show k < 10 by omega)) (vp_in_nI (by omega) (by decide)) ?_
            rw [i_cl (by omega), u6 c (by omega)]
            refine e_istore [(0, .ref 0), (1, .int (nI k)), (2, .int (nI c)), (3, .int (nI u)), (4, .int (nI (S (20 + k) c)))] dX10_row_69 (by decide) rfl ?_
            refine e_aload_n dX10_row_71 rfl 0 rfl ?_
            refine e_getR dX10_row_72 lkX10_46 tt_0 rfl ?_
            refine e_getR dX10_row_75 lkX10_89 (store_0 store_32_) rfl ?_
            refine e_getR dX10_row_78 lkX10_171 (nodes_0 (store_n store_32_)) rfl ?_
            refine e_iload_n dX10_row_81 rfl 1 rfl ?_
            refine e_aald dX10_row_82 (nodes_6 (store_n store_32_)) (Or.inl rfl) (vp_in_nI (by omega) (by decide)) (by rw [i_cl (by omega)]; exact nodes_rowAt 33 (by omega)) ?_
            refine e_iload_n dX10_row_83 rfl 2 rfl ?_
            refine e_iload_n dX10_row_84 rfl 3 rfl ?_
            refine e_iast dX10_row_85 (nodes_row nodes_33_ (show k < 10 by omega)) (vp_in_nI (by omega) (by decide)) ?_
            refine e_iload dX10_row_86 4 rfl ?_
            refine e_reti dX10_row_88 ev_nwi (Nat.le_refl _) (Nat.le_refl _) ?_
            have hr : nrow S (nI k) (nI c) (nI u) = (nI (S (20 + k) c), nup S (20 + k) c u) := by
              unfold nrow
              rw [cif_t (nhas hV hk), cif_t hQ, cif_t hW, i_cl (show k < 2 ^ 31 by omega), i_cl (show c < 2 ^ 31 by omega), i_cl (show u < 2 ^ 31 by omega), cif_t hkd]
            rw [hr, i_cl (show c < 2 ^ 31 by omega)]
            exact ⟨rfl, hC.row hV hk (by omega), fun i hi => sup_obj (by omega), rfl⟩
          · skip
            rw [i_cl (by omega), u1] at h49
            have hkd : ¬ S 1 k = 6 := fun q => h49 (by rw [q]; rfl)
            refine e_bipush (v := (-3)) dX10_row_52 rfl ?_
            refine e_reti dX10_row_54 ev_nwi (Nat.le_refl _) (Nat.le_refl _) ?_
            have hr : nrow S (nI k) q v = (-3, S) := by
              unfold nrow
              rw [cif_t (nhas hV hk), cif_t hQ, cif_t hW, i_cl (show k < 2 ^ 31 by omega), cif_f hkd]
            rw [hr]
            exact ⟨rfl, hC, fun _ _ => rfl, rfl⟩
        · skip
          rw [q26] at h29
          have h29 := bI_eq0.mp h29
          refine e_bipush (v := (-2)) dX10_row_32 rfl ?_
          refine e_reti dX10_row_34 ev_nwi (Nat.le_refl _) (Nat.le_refl _) ?_
          have hr : nrow S x q v = (-2, S) := by
            unfold nrow
            rw [cif_t hP, cif_t hQ, cif_f h29]
          rw [hr]
          exact ⟨rfl, hC, fun _ _ => rfl, rfl⟩
      · skip
        skip
        refine e_iconst (v := (-1)) dX10_row_23 rfl ?_
        refine e_reti dX10_row_24 ev_nwi (Nat.le_refl _) (Nat.le_refl _) ?_
        have hr : nrow S x q v = (-1, S) := by
          unfold nrow
          rw [cif_t hP, cif_f (fun z => h20 (lt_4.mpr z.2))]
        rw [hr]
        exact ⟨rfl, hC, fun _ _ => rfl, rfl⟩

set_option maxRecDepth 100000 in
theorem c11_row {S : ns_T} (hV : VS S) {x q v : Int32} {σ : ex_S} {μ : ex_L}(hR : NR σ S) : Ci 5 yX11_row cX11_row 5 (some .int) [.ref 127, .int x, .int q, .int v] TT σ μ (fun z' σ' μ' => z' = (nrow S x q v).1 ∧ NR σ' (nrow S x q v).2 ∧ (∀ i, i ≠ 137 → σ' i = σ i) ∧ μ' = μ) := by
  refine Cl_of (by decide +kernel) (Nat.le_of_ble_eq_true rfl) ?_
  show Ev RX11 cX11_row 5 5 0 0 "row" (some .int) ev_ext _ _ 0 0 0 [(0, .ref 127), (1, .int x), (2, .int q), (3, .int v)] [] TT σ μ
  have hn := hV.1
  have h2n := two_n hV
  refine e_aload_n dX11_row_0 rfl 0 rfl ?_
  refine e_iload_n dX11_row_1 rfl 1 rfl ?_
  refine e_callVi dX11_row_2 cvX11_169 rfl tt_127 rfl (c11_isOneN hV hR x) (Nat.le_of_ble_eq_true rfl) (Nat.le_refl _) (Nat.le_refl _) rfl (Nat.le_of_ble_eq_true rfl) (fun r2 s2 m2 q2 => ?_)
  obtain ⟨q2, e2, g2⟩ := q2
  rw [e2, g2]
  clear e2 g2 s2 m2
  refine e_if_eq (t := 17) dX11_row_5 (by decide) (fun h5 => ?_) (fun h5 => ?_)
  · skip
    rw [q2, bI_eq0] at h5
    refine e_iconst (v := (-1)) dX11_row_17 rfl ?_
    refine e_reti dX11_row_18 ev_nwi (Nat.le_refl _) (Nat.le_refl _) ?_
    have hr : nrow S x q v = (-1, S) := by
      unfold nrow
      rw [cif_f h5]
    rw [hr]
    exact ⟨rfl, hR, fun _ _ => rfl, rfl⟩
  · skip
    rw [q2, bI_eq0] at h5
    have hP := Classical.not_not.mp h5
    refine e_iload_n dX11_row_8 rfl 2 rfl ?_
    refine e_iconst (v := 0) dX11_row_9 rfl ?_
    refine e_iconst (v := 3) dX11_row_10 rfl ?_
    refine e_callSi dX11_row_11 cvX11_99 rfl (c11_within q 0 3) (Nat.le_of_ble_eq_true rfl) (Nat.le_refl _) (Nat.le_refl _) rfl (Nat.le_of_ble_eq_true rfl) (fun r11 s11 m11 q11 => ?_)
    obtain ⟨q11, e11, g11⟩ := q11
    rw [e11, g11]
    clear e11 g11 s11 m11
    refine e_if_ne (t := 19) dX11_row_14 (by decide) (fun h14 => ?_) (fun h14 => ?_)
    · skip
      rw [q11, bI_eq0] at h14
      have hQ := Classical.not_not.mp h14
      refine e_iload_n dX11_row_19 rfl 3 rfl ?_
      refine e_iconst (v := 0) dX11_row_20 rfl ?_
      refine e_bipush (v := 9) dX11_row_21 rfl ?_
      refine e_callSi dX11_row_23 cvX11_99 rfl (c11_within v 0 9) (Nat.le_of_ble_eq_true rfl) (Nat.le_refl _) (Nat.le_refl _) rfl (Nat.le_of_ble_eq_true rfl) (fun r23 s23 m23 q23 => ?_)
      obtain ⟨q23, e23, g23⟩ := q23
      rw [e23, g23]
      clear e23 g23 s23 m23
      refine e_if_ne (t := 32) dX11_row_26 (by decide) (fun h26 => ?_) (fun h26 => ?_)
      · skip
        rw [q23, bI_eq0] at h26
        have hW := Classical.not_not.mp h26
        obtain ⟨k, hk, rfl⟩ := i_ofl (x := x) (m := S 0 0) (by omega) hP.1 (show _ < nI (S 0 0) from hP.2)
        obtain ⟨u1, u2, u3, u4, u5, u6, u7⟩ := hR.2.2.2.1 k hk
        have hk7 := (hV.2.2.2.2.2.2.1 k hk).1
        refine e_aload_n dX11_row_32 rfl 0 rfl ?_
        refine e_getR dX11_row_33 lkX11_21 tt_127 rfl ?_
        refine e_iload_n dX11_row_36 rfl 1 rfl ?_
        refine e_iald dX11_row_37 tt_131 (vp_in_nI (by omega) (by decide)) ?_
        refine e_bipush (v := 6) dX11_row_38 rfl ?_
        refine e_icmp_eq (t := 46) dX11_row_40 (by decide) (fun h40 => ?_) (fun h40 => ?_)
        · skip
          rw [i_cl (by omega), u1] at h40
          have hkd : S 1 k = 6 := (i_eq (by omega) (by decide)).mp h40
          obtain ⟨c, hc, rfl⟩ := i_of (x := q) (m := 3) (by omega) hQ.1 (show _ ≤ nI (3) from hQ.2)
          obtain ⟨u, hu, rfl⟩ := i_of (x := v) (m := 9) (by omega) hW.1 (show _ ≤ nI (9) from hW.2)
          refine e_aload_n dX11_row_46 rfl 0 rfl ?_
          refine e_getR dX11_row_47 lkX11_39 tt_127 rfl ?_
          refine e_iconst (v := 4) dX11_row_50 rfl ?_
          refine e_iload_n dX11_row_51 rfl 1 rfl ?_
          refine e_imul dX11_row_52 ?_
          refine e_iload_n dX11_row_53 rfl 2 rfl ?_
          refine e_iadd dX11_row_54 ?_
          rw [i_lin4]
          refine e_iald dX11_row_55 tt_137 (vp_in_nI (by omega) (by decide)) ?_
          rw [i_cl (by omega), u7 c (by omega)]
          refine e_istore [(0, .ref 127), (1, .int (nI k)), (2, .int (nI c)), (3, .int (nI u)), (4, .int (nI (S (20 + k) c)))] dX11_row_56 (by decide) rfl ?_
          refine e_aload_n dX11_row_58 rfl 0 rfl ?_
          refine e_getR dX11_row_59 lkX11_39 tt_127 rfl ?_
          refine e_iconst (v := 4) dX11_row_62 rfl ?_
          refine e_iload_n dX11_row_63 rfl 1 rfl ?_
          refine e_imul dX11_row_64 ?_
          refine e_iload_n dX11_row_65 rfl 2 rfl ?_
          refine e_iadd dX11_row_66 ?_
          refine e_iload_n dX11_row_67 rfl 3 rfl ?_
          rw [i_lin4]
          refine e_iast dX11_row_68 tt_137 (vp_in_nI (by omega) (by decide)) ?_
          refine e_iload dX11_row_69 4 rfl ?_
          refine e_reti dX11_row_71 ev_nwi (Nat.le_refl _) (Nat.le_refl _) ?_
          have hr : nrow S (nI k) (nI c) (nI u) = (nI (S (20 + k) c), nup S (20 + k) c u) := by
            unfold nrow
            rw [cif_t (nhas hV hk), cif_t hQ, cif_t hW, i_cl (show k < 2 ^ 31 by omega), i_cl (show c < 2 ^ 31 by omega), i_cl (show u < 2 ^ 31 by omega), cif_t hkd]
          rw [hr, i_cl (show 4 * k + c < 2 ^ 31 by omega)]
          exact ⟨rfl, hR.row (by omega), fun i hi => sup_obj hi, rfl⟩
        · skip
          rw [i_cl (by omega), u1] at h40
          have hkd : ¬ S 1 k = 6 := fun q => h40 (by rw [q]; rfl)
          refine e_bipush (v := (-3)) dX11_row_43 rfl ?_
          refine e_reti dX11_row_45 ev_nwi (Nat.le_refl _) (Nat.le_refl _) ?_
          have hr : nrow S (nI k) q v = (-3, S) := by
            unfold nrow
            rw [cif_t (nhas hV hk), cif_t hQ, cif_t hW, i_cl (show k < 2 ^ 31 by omega), cif_f hkd]
          rw [hr]
          exact ⟨rfl, hR, fun _ _ => rfl, rfl⟩
      · skip
        rw [q23] at h26
        have h26 := bI_eq0.mp h26
        refine e_bipush (v := (-2)) dX11_row_29 rfl ?_
        refine e_reti dX11_row_31 ev_nwi (Nat.le_refl _) (Nat.le_refl _) ?_
        have hr : nrow S x q v = (-2, S) := by
          unfold nrow
          rw [cif_t hP, cif_t hQ, cif_f h26]
        rw [hr]
        exact ⟨rfl, hR, fun _ _ => rfl, rfl⟩
    · skip
      rw [q11] at h14
      have h14 := bI_eq0.mp h14
      refine e_iconst (v := (-1)) dX11_row_17 rfl ?_
      refine e_reti dX11_row_18 ev_nwi (Nat.le_refl _) (Nat.le_refl _) ?_
      have hr : nrow S x q v = (-1, S) := by
        unfold nrow
        rw [cif_t hP, cif_f h14]
      rw [hr]
      exact ⟨rfl, hR, fun _ _ => rfl, rfl⟩

noncomputable def nwrite (S : ns_T) (x v : Int32) : out_T := cif (0 ≤ x ∧ x < nI (S 0 1)) (cif (0 ≤ v ∧ v ≤ 15) (cif ((S 0 3).testBit (S 8 x.toNatClampNeg) = true) (-3, S)
  (nI (S 7 x.toNatClampNeg), nup S 7 x.toNatClampNeg v.toNatClampNeg)) (-2, S)) (-1, S)
theorem nhasD {S : ns_T} (hV : VS S) {k : Nat} (hk : k < S 0 1) : 0 ≤ nI k ∧ nI k < nI (S 0 1) := by
  have := hV.2.1
  exact ⟨i_nn (by omega), (i_lt (by omega) (by omega)).mpr hk⟩

set_option maxRecDepth 100000 in
theorem c3_isDataMissing {b : Nat} (hN : NodesAt b) {S : ns_T} (hV : VS S) {σ : ex_S} {μ : ex_L}(hC : NC σ b S) {e : Nat} (he : e < S 0 1) : Ci 3 yX3_isDataMissing cX3_isDataMissing 2 (some .boolean) [.ref b, .int (nI e)] TT σ μ (fun z' σ' μ' => z' = bI ((S 0 3).testBit (S 8 e) = true) ∧ σ' = σ ∧ μ' = μ) := by
  refine Cl_of (by decide +kernel) (Nat.le_of_ble_eq_true rfl) ?_
  show Ev RX3 cX3_isDataMissing 2 3 0 0 "isDataMissing" (some .boolean) ev_ext _ _ 0 0 0 [(0, .ref b), (1, .int (nI e))] [] TT σ μ
  have hn := hV.1
  have h2n := two_n hV
  have hd := hV.2.1
  have ce := (hC.2.2.2.2.2 e he).1
  have ve := (hV.2.2.2.2.2.2.2 e he).1
  refine e_iload_n dX3_isDataMissing_0 rfl 1 rfl ?_
  refine e_if_lt (t := 29) dX3_isDataMissing_1 (by decide) (fun h1 => ?_) (fun h1 => ?_)
  · skip
    exact absurd (i_nn (show e < 2 ^ 31 by omega)) (nlt_0 h1)
  · skip
    refine e_iload_n dX3_isDataMissing_4 rfl 1 rfl ?_
    refine e_aload_n dX3_isDataMissing_5 rfl 0 rfl ?_
    refine e_getI dX3_isDataMissing_6 lkX3_15 (nodes_0 hN) rfl ?_
    rw [hC.2.1]
    refine e_icmp_ge (t := 29) dX3_isDataMissing_9 (by decide) (fun h9 => ?_) (fun h9 => ?_)
    · skip
      exact absurd ((i_le (by omega) (by omega)).mp (show nI (S 0 1) ≤ nI e from h9)) (by omega)
    · skip
      refine e_aload_n dX3_isDataMissing_12 rfl 0 rfl ?_
      refine e_aload_n dX3_isDataMissing_13 rfl 0 rfl ?_
      refine e_getR dX3_isDataMissing_14 lkX3_45 (nodes_0 hN) rfl ?_
      refine e_iload_n dX3_isDataMissing_17 rfl 1 rfl ?_
      refine e_iald dX3_isDataMissing_18 (nodes_17 hN) (vp_in_nI (by omega) (by decide)) ?_
      rw [i_cl (by omega), ce]
      refine e_callVi dX3_isDataMissing_19 cvX3_69 rfl (nodes_0 hN) rfl (c3_isMissingN hN hV hC ve) (Nat.le_of_ble_eq_true rfl) (Nat.le_refl _) (Nat.le_refl _) rfl (Nat.le_of_ble_eq_true rfl) (fun r19 s19 m19 q19 => ?_)
      obtain ⟨q19, e19, g19⟩ := q19
      rw [e19, g19]
      clear e19 g19 s19 m19
      refine e_if_eq (t := 29) dX3_isDataMissing_22 (by decide) (fun h22 => ?_) (fun h22 => ?_)
      · skip
        refine e_iconst (v := 0) dX3_isDataMissing_29 rfl ?_
        refine e_reti dX3_isDataMissing_30 ev_nw0 (Nat.le_refl _) (Nat.le_refl _) ?_
        rw [q19, bI_eq0] at h22
        exact ⟨(bI_f h22).symm, rfl, rfl⟩
      · skip
        refine e_iconst (v := 1) dX3_isDataMissing_25 rfl ?_
        refine e_goto (t := 30) dX3_isDataMissing_26 (by decide) ?_
        refine e_reti dX3_isDataMissing_30 ev_nw1 (Nat.le_refl _) (Nat.le_refl _) ?_
        rw [q19, bI_eq0] at h22
        exact ⟨(bI_t (Classical.not_not.mp h22)).symm, rfl, rfl⟩

set_option maxRecDepth 100000 in
theorem c10_write {S : ns_T} (hV : VS S) {x v : Int32} {σ : ex_S} {μ : ex_L}(hC : NC σ 33 S) : Ci 5 yX10_write cX10_write 5 (some .int) [.ref 0, .int x, .int v] TT σ μ (fun z' σ' μ' => z' = (nwrite S x v).1 ∧ NC σ' 33 (nwrite S x v).2 ∧ (∀ i, (i < 33 ∨ 52 ≤ i) → σ' i = σ i) ∧ μ' = μ) := by
  refine Cl_of (by decide +kernel) (Nat.le_of_ble_eq_true rfl) ?_
  show Ev RX10 cX10_write 5 5 0 0 "write" (some .int) ev_ext _ _ 0 0 0 [(0, .ref 0), (1, .int x), (2, .int v)] [] TT σ μ
  have hn := hV.1
  have h2n := two_n hV
  have hd := hV.2.1
  refine e_aload_n dX10_write_0 rfl 0 rfl ?_
  refine e_getR dX10_write_1 lkX10_46 tt_0 rfl ?_
  refine e_getR dX10_write_4 lkX10_89 (store_0 store_32_) rfl ?_
  refine e_astore_n [(0, .ref 0), (1, .int x), (2, .int v), (3, .ref 33)] dX10_write_7 rfl (by decide) rfl ?_
  refine e_iload_n dX10_write_8 rfl 1 rfl ?_
  refine e_if_lt (t := 20) dX10_write_9 (by decide) (fun h9 => ?_) (fun h9 => ?_)
  · skip
    skip
    refine e_iconst (v := (-1)) dX10_write_20 rfl ?_
    refine e_reti dX10_write_21 ev_nwi (Nat.le_refl _) (Nat.le_refl _) ?_
    have hr : nwrite S x v = (-1, S) := by
      unfold nwrite
      rw [cif_f (fun z => nlt_0 h9 z.1)]
    rw [hr]
    exact ⟨rfl, hC, fun _ _ => rfl, rfl⟩
  · skip
    refine e_iload_n dX10_write_12 rfl 1 rfl ?_
    refine e_aload_n dX10_write_13 rfl 3 rfl ?_
    refine e_getI dX10_write_14 lkX10_130 (nodes_0 (store_n store_32_)) rfl ?_
    refine e_icmp_lt (t := 22) dX10_write_17 (by decide) (fun h17 => ?_) (fun h17 => ?_)
    · skip
      rw [hC.2.1] at h17
      have hP : 0 ≤ x ∧ x < nI (S 0 1) := ⟨fa_of_nlt h9, h17⟩
      refine e_iload_n dX10_write_22 rfl 2 rfl ?_
      refine e_callSi dX10_write_23 cvX10_121 rfl (c10_isNumber v) (Nat.le_of_ble_eq_true rfl) (Nat.le_refl _) (Nat.le_refl _) rfl (Nat.le_of_ble_eq_true rfl) (fun r23 s23 m23 q23 => ?_)
      obtain ⟨q23, e23, g23⟩ := q23
      rw [e23, g23]
      clear e23 g23 s23 m23
      refine e_if_ne (t := 32) dX10_write_26 (by decide) (fun h26 => ?_) (fun h26 => ?_)
      · skip
        rw [q23, bI_eq0] at h26
        have hW := Classical.not_not.mp h26
        obtain ⟨k, hk, rfl⟩ := i_ofl (x := x) (m := S 0 1) (by omega) hP.1 (show _ < nI (S 0 1) from hP.2)
        obtain ⟨u, hu, rfl⟩ := i_of (x := v) (m := 15) (by omega) hW.1 (show _ ≤ nI (15) from hW.2)
        obtain ⟨u1, u2⟩ := hC.2.2.2.2.2 k hk
        refine e_aload_n dX10_write_32 rfl 3 rfl ?_
        refine e_iload_n dX10_write_33 rfl 1 rfl ?_
        refine e_callVi dX10_write_34 cvX10_223 rfl (nodes_0 (store_n store_32_)) rfl (c3_isDataMissing nodes_33_ hV hC hk) (Nat.le_of_ble_eq_true rfl) (Nat.le_refl _) (Nat.le_refl _) rfl (Nat.le_of_ble_eq_true rfl) (fun r34 s34 m34 q34 => ?_)
        obtain ⟨q34, e34, g34⟩ := q34
        rw [e34, g34]
        clear e34 g34 s34 m34
        refine e_if_eq (t := 43) dX10_write_37 (by decide) (fun h37 => ?_) (fun h37 => ?_)
        · skip
          rw [q34, bI_eq0] at h37
          have hm : ¬ (S 0 3).testBit (S 8 k) = true := h37
          refine e_aload_n dX10_write_43 rfl 3 rfl ?_
          refine e_getR dX10_write_44 lkX10_226 (nodes_0 (store_n store_32_)) rfl ?_
          refine e_iload_n dX10_write_47 rfl 1 rfl ?_
          refine e_iald dX10_write_48 (nodes_18 (store_n store_32_)) (vp_in_nI (by omega) (by decide)) ?_
          rw [i_cl (by omega), u2]
          refine e_istore [(0, .ref 0), (1, .int (nI k)), (2, .int (nI u)), (3, .ref 33), (4, .int (nI (S 7 k)))] dX10_write_49 (by decide) rfl ?_
          refine e_aload_n dX10_write_51 rfl 3 rfl ?_
          refine e_getR dX10_write_52 lkX10_226 (nodes_0 (store_n store_32_)) rfl ?_
          refine e_iload_n dX10_write_55 rfl 1 rfl ?_
          refine e_iload_n dX10_write_56 rfl 2 rfl ?_
          refine e_iast dX10_write_57 (nodes_18 (store_n store_32_)) (vp_in_nI (by omega) (by decide)) ?_
          refine e_iload dX10_write_58 4 rfl ?_
          refine e_reti dX10_write_60 ev_nwi (Nat.le_refl _) (Nat.le_refl _) ?_
          have hr : nwrite S (nI k) (nI u) = (nI (S 7 k), nup S 7 k u) := by
            unfold nwrite
            rw [cif_t (nhasD hV hk), cif_t hW, i_cl (show k < 2 ^ 31 by omega), i_cl (show u < 2 ^ 31 by omega), cif_f hm]
          rw [hr, i_cl (show k < 2 ^ 31 by omega)]
          exact ⟨rfl, hC.wr hV, fun i hi => sup_obj (by omega), rfl⟩
        · skip
          rw [q34, bI_eq0] at h37
          have hm := Classical.not_not.mp h37
          refine e_bipush (v := (-3)) dX10_write_40 rfl ?_
          refine e_reti dX10_write_42 ev_nwi (Nat.le_refl _) (Nat.le_refl _) ?_
          have hr : nwrite S (nI k) (nI u) = (-3, S) := by
            unfold nwrite
            rw [cif_t (nhasD hV hk), cif_t hW, i_cl (show k < 2 ^ 31 by omega), cif_t hm]
          rw [hr]
          exact ⟨rfl, hC, fun _ _ => rfl, rfl⟩
      · skip
        rw [q23] at h26
        have h26 := bI_eq0.mp h26
        refine e_bipush (v := (-2)) dX10_write_29 rfl ?_
        refine e_reti dX10_write_31 ev_nwi (Nat.le_refl _) (Nat.le_refl _) ?_
        have hr : nwrite S x v = (-2, S) := by
          unfold nwrite
          rw [cif_t hP, cif_f h26]
        rw [hr]
        exact ⟨rfl, hC, fun _ _ => rfl, rfl⟩
    · skip
      rw [hC.2.1] at h17
      refine e_iconst (v := (-1)) dX10_write_20 rfl ?_
      refine e_reti dX10_write_21 ev_nwi (Nat.le_refl _) (Nat.le_refl _) ?_
      have hr : nwrite S x v = (-1, S) := by
        unfold nwrite
        rw [cif_f (fun z => h17 z.2)]
      rw [hr]
      exact ⟨rfl, hC, fun _ _ => rfl, rfl⟩

set_option maxRecDepth 100000 in
theorem c11_write {S : ns_T} (hV : VS S) {x v : Int32} {σ : ex_S} {μ : ex_L}(hR : NR σ S) : Ci 5 yX11_write cX11_write 4 (some .int) [.ref 127, .int x, .int v] TT σ μ (fun z' σ' μ' => z' = (nwrite S x v).1 ∧ NR σ' (nwrite S x v).2 ∧ (∀ i, i ≠ 138 → σ' i = σ i) ∧ μ' = μ) := by
  refine Cl_of (by decide +kernel) (Nat.le_of_ble_eq_true rfl) ?_
  show Ev RX11 cX11_write 4 5 0 0 "write" (some .int) ev_ext _ _ 0 0 0 [(0, .ref 127), (1, .int x), (2, .int v)] [] TT σ μ
  have hn := hV.1
  have h2n := two_n hV
  have hd := hV.2.1
  refine e_iload_n dX11_write_0 rfl 1 rfl ?_
  refine e_iconst (v := 0) dX11_write_1 rfl ?_
  refine e_aload_n dX11_write_2 rfl 0 rfl ?_
  refine e_getI dX11_write_3 lkX11_134 tt_127 rfl ?_
  refine e_iconst (v := 1) dX11_write_6 rfl ?_
  refine e_isub dX11_write_7 ?_
  rw [hR.2.1]
  refine e_callSi dX11_write_8 cvX11_99 rfl (c11_within x 0 (nI (S 0 1) - 1)) (Nat.le_of_ble_eq_true rfl) (Nat.le_refl _) (Nat.le_refl _) rfl (Nat.le_of_ble_eq_true rfl) (fun r8 s8 m8 q8 => ?_)
  obtain ⟨q8, e8, g8⟩ := q8
  rw [e8, g8]
  clear e8 g8 s8 m8
  refine e_if_ne (t := 16) dX11_write_11 (by decide) (fun h11 => ?_) (fun h11 => ?_)
  · skip
    rw [q8, bI_eq0] at h11
    have hP := Classical.not_not.mp h11
    have hP : 0 ≤ x ∧ x < nI (S 0 1) := ⟨hP.1, (le_pred (by omega)).mp hP.2⟩
    refine e_iload_n dX11_write_16 rfl 2 rfl ?_
    refine e_callSi dX11_write_17 cvX11_125 rfl (c11_isNumber v) (Nat.le_of_ble_eq_true rfl) (Nat.le_refl _) (Nat.le_refl _) rfl (Nat.le_of_ble_eq_true rfl) (fun r17 s17 m17 q17 => ?_)
    obtain ⟨q17, e17, g17⟩ := q17
    rw [e17, g17]
    clear e17 g17 s17 m17
    refine e_if_ne (t := 26) dX11_write_20 (by decide) (fun h20 => ?_) (fun h20 => ?_)
    · skip
      rw [q17, bI_eq0] at h20
      have hW := Classical.not_not.mp h20
      obtain ⟨k, hk, rfl⟩ := i_ofl (x := x) (m := S 0 1) (by omega) hP.1 (show _ < nI (S 0 1) from hP.2)
      obtain ⟨u, hu, rfl⟩ := i_of (x := v) (m := 15) (by omega) hW.1 (show _ ≤ nI (15) from hW.2)
      obtain ⟨u1, u2⟩ := hR.2.2.2.2 k hk
      have ve := (hV.2.2.2.2.2.2.2 k hk).1
      have um := (hR.2.2.2.1 _ ve).2.2.2.2.1
      refine e_aload_n dX11_write_26 rfl 0 rfl ?_
      refine e_getR dX11_write_27 lkX11_33 tt_127 rfl ?_
      refine e_aload_n dX11_write_30 rfl 0 rfl ?_
      refine e_getR dX11_write_31 lkX11_45 tt_127 rfl ?_
      refine e_iload_n dX11_write_34 rfl 1 rfl ?_
      refine e_iald dX11_write_35 tt_139 (vp_in_nI (by omega) (by decide)) ?_
      rw [i_cl (by omega), u2]
      refine e_iald dX11_write_36 tt_135 (vp_in_nI (by omega) (by decide)) ?_
      refine e_iconst (v := 1) dX11_write_37 rfl ?_
      refine e_icmp_ne (t := 44) dX11_write_38 (by decide) (fun h38 => ?_) (fun h38 => ?_)
      · skip
        have hm : ¬ (S 0 3).testBit (S 8 k) = true := fun q => h38 (by rw [i_cl (by omega), um, q]; rfl)
        refine e_aload_n dX11_write_44 rfl 0 rfl ?_
        refine e_getR dX11_write_45 lkX11_42 tt_127 rfl ?_
        refine e_iload_n dX11_write_48 rfl 1 rfl ?_
        refine e_iald dX11_write_49 tt_138 (vp_in_nI (by omega) (by decide)) ?_
        rw [i_cl (by omega), u1]
        refine e_istore_n [(0, .ref 127), (1, .int (nI k)), (2, .int (nI u)), (3, .int (nI (S 7 k)))] dX11_write_50 rfl (by decide) rfl ?_
        refine e_aload_n dX11_write_51 rfl 0 rfl ?_
        refine e_getR dX11_write_52 lkX11_42 tt_127 rfl ?_
        refine e_iload_n dX11_write_55 rfl 1 rfl ?_
        refine e_iload_n dX11_write_56 rfl 2 rfl ?_
        refine e_iast dX11_write_57 tt_138 (vp_in_nI (by omega) (by decide)) ?_
        refine e_iload_n dX11_write_58 rfl 3 rfl ?_
        refine e_reti dX11_write_59 ev_nwi (Nat.le_refl _) (Nat.le_refl _) ?_
        have hr : nwrite S (nI k) (nI u) = (nI (S 7 k), nup S 7 k u) := by
          unfold nwrite
          rw [cif_t (nhasD hV hk), cif_t hW, i_cl (show k < 2 ^ 31 by omega), i_cl (show u < 2 ^ 31 by omega), cif_f hm]
        rw [hr, i_cl (show k < 2 ^ 31 by omega)]
        exact ⟨rfl, hR.wr, fun i hi => sup_obj hi, rfl⟩
      · skip
        have hm : (S 0 3).testBit (S 8 k) = true := by
          cases hb9 : (S 0 3).testBit (S 8 k) with
          | true => rfl
          | false => exact absurd (show nI 0 = nI 1 from by rw [i_cl (by omega), um, hb9] at h38; exact h38) (by decide)
        refine e_bipush (v := (-3)) dX11_write_41 rfl ?_
        refine e_reti dX11_write_43 ev_nwi (Nat.le_refl _) (Nat.le_refl _) ?_
        have hr : nwrite S (nI k) (nI u) = (-3, S) := by
          unfold nwrite
          rw [cif_t (nhasD hV hk), cif_t hW, i_cl (show k < 2 ^ 31 by omega), cif_t hm]
        rw [hr]
        exact ⟨rfl, hR, fun _ _ => rfl, rfl⟩
    · skip
      rw [q17] at h20
      have h20 := bI_eq0.mp h20
      refine e_bipush (v := (-2)) dX11_write_23 rfl ?_
      refine e_reti dX11_write_25 ev_nwi (Nat.le_refl _) (Nat.le_refl _) ?_
      have hr : nwrite S x v = (-2, S) := by
        unfold nwrite
        rw [cif_t hP, cif_f h20]
      rw [hr]
      exact ⟨rfl, hR, fun _ _ => rfl, rfl⟩
  · skip
    rw [q8] at h11
    have h11 := bI_eq0.mp h11
    refine e_iconst (v := (-1)) dX11_write_14 rfl ?_
    refine e_reti dX11_write_15 ev_nwi (Nat.le_refl _) (Nat.le_refl _) ?_
    have hr : nwrite S x v = (-1, S) := by
      unfold nwrite
      rw [cif_f (fun z => h11 ⟨z.1, (le_pred (by omega)).mpr z.2⟩)]
    rw [hr]
    exact ⟨rfl, hR, fun _ _ => rfl, rfl⟩

noncomputable def nlose (p : Nat) (S : ns_T) (x : Int32) : out_T := cif (0 ≤ x ∧ x < nI (S 0 0)) (cif ((S 0 3).testBit x.toNatClampNeg = true) (-3, S) (nI (nsym p (nlos S x.toNatClampNeg) x.toNatClampNeg), nlos S x.toNatClampNeg)) (-1, S)
noncomputable def nrepair (p : Nat) (S : ns_T) (x : Int32) : out_T := cif (0 ≤ x ∧ x < nI (S 0 0)) (cif (nbk p S x.toNatClampNeg = none) (-3, S) (nI (nsym p (naft S x.toNatClampNeg (nbk p S x.toNatClampNeg)) x.toNatClampNeg), naft S x.toNatClampNeg (nbk p S x.toNatClampNeg))) (-1, S)
theorem VS.aft {S : ns_T} (hV : VS S) (j : Nat) (o : Option Nat) : VS (naft S j o) := by
  cases o with
  | none => exact hV
  | some t => exact hV.rep j t
theorem naft_0 {S : ns_T} {j : Nat} {o : Option Nat} {k : Nat} (h : k ≠ 3) : naft S j o 0 k = S 0 k := by
  cases o with
  | none => rfl
  | some t => exact nrep_ne (by omega) (by omega)
theorem nbk_lt {p : Nat} {S : ns_T} (hV : VS S) {j t : Nat} (h : nbk p S j = some t) : t < 1024 := by
  unfold nbk at h
  by_cases hb : (S 0 3).testBit j = true
  · rw [if_pos hb] at h
    exact nhelp_lt hV h
  · rw [if_neg hb] at h
    cases h

set_option maxRecDepth 100000 in
theorem c10_lose {p : Nat} (hp : gP p) {S : ns_T} (hV : VS S) {x : Int32} {σ : ex_S} {μ : ex_L}(hF : FC σ p) (hC : NC σ 33 S) : Ci 6 yX10_lose cX10_lose 2 (some .int) [.ref 0, .int x] TT σ μ (fun z' σ' μ' => z' = (nlose p S x).1 ∧ NC σ' 33 (nlose p S x).2 ∧ (∀ i, (i < 33 ∨ 52 ≤ i) → σ' i = σ i) ∧ μ' = μ) := by
  refine Cl_of (by decide +kernel) (Nat.le_of_ble_eq_true rfl) ?_
  show Ev RX10 cX10_lose 2 6 0 0 "lose" (some .int) ev_ext _ _ 0 0 0 [(0, .ref 0), (1, .int x)] [] TT σ μ
  have hn := hV.1
  have h2n := two_n hV
  refine e_aload_n dX10_lose_0 rfl 0 rfl ?_
  refine e_getR dX10_lose_1 lkX10_46 tt_0 rfl ?_
  refine e_getR dX10_lose_4 lkX10_89 (store_0 store_32_) rfl ?_
  refine e_iload_n dX10_lose_7 rfl 1 rfl ?_
  refine e_callVi dX10_lose_8 cvX10_165 rfl (nodes_0 (store_n store_32_)) rfl (c3_hasN nodes_33_ hC x) (Nat.le_of_ble_eq_true rfl) (Nat.le_refl _) (Nat.le_refl _) rfl (Nat.le_of_ble_eq_true rfl) (fun r8 s8 m8 q8 => ?_)
  obtain ⟨q8, e8, g8⟩ := q8
  rw [e8, g8]
  clear e8 g8 s8 m8
  refine e_if_ne (t := 16) dX10_lose_11 (by decide) (fun h11 => ?_) (fun h11 => ?_)
  · skip
    rw [q8, bI_eq0] at h11
    have hP := Classical.not_not.mp h11
    obtain ⟨k, hk, rfl⟩ := i_ofl (x := x) (m := S 0 0) (by omega) hP.1 (show _ < nI (S 0 0) from hP.2)
    refine e_aload_n dX10_lose_16 rfl 0 rfl ?_
    refine e_getR dX10_lose_17 lkX10_46 tt_0 rfl ?_
    refine e_getR dX10_lose_20 lkX10_89 (store_0 store_32_) rfl ?_
    refine e_iload_n dX10_lose_23 rfl 1 rfl ?_
    refine e_callVi dX10_lose_24 cvX10_187 rfl (nodes_0 (store_n store_32_)) rfl (c3_isMissingN nodes_33_ hV hC hk) (Nat.le_of_ble_eq_true rfl) (Nat.le_refl _) (Nat.le_refl _) rfl (Nat.le_of_ble_eq_true rfl) (fun r24 s24 m24 q24 => ?_)
    obtain ⟨q24, e24, g24⟩ := q24
    rw [e24, g24]
    clear e24 g24 s24 m24
    refine e_if_eq (t := 33) dX10_lose_27 (by decide) (fun h27 => ?_) (fun h27 => ?_)
    · skip
      rw [q24, bI_eq0] at h27
      have hm := h27
      refine e_aload_n dX10_lose_33 rfl 0 rfl ?_
      refine e_getR dX10_lose_34 lkX10_46 tt_0 rfl ?_
      refine e_getR dX10_lose_37 lkX10_89 (store_0 store_32_) rfl ?_
      refine e_dup dX10_lose_40 rfl ?_
      refine e_getI dX10_lose_41 lkX10_229 (nodes_0 (store_n store_32_)) rfl ?_
      rw [hC.2.2.2.1]
      refine e_iconst (v := 1) dX10_lose_44 rfl ?_
      refine e_iload_n dX10_lose_45 rfl 1 rfl ?_
      refine e_ishl dX10_lose_46 ?_
      refine e_ior dX10_lose_47 ?_
      rw [i_shl1 (by omega), fa_or]
      refine e_putI dX10_lose_48 lkX10_229' (nodes_0 (store_n store_32_)) rfl rfl rfl ?_
      refine e_aload_n dX10_lose_51 rfl 0 rfl ?_
      refine e_getR dX10_lose_52 lkX10_46 tt_0 rfl ?_
      refine e_getR dX10_lose_55 lkX10_89 (store_0 store_32_) rfl ?_
      refine e_aload_n dX10_lose_58 rfl 0 rfl ?_
      refine e_getR dX10_lose_59 lkX10_12 tt_0 rfl ?_
      refine e_iload_n dX10_lose_62 rfl 1 rfl ?_
      refine e_callVi dX10_lose_63 cvX10_190 rfl (nodes_0 (store_n store_32_)) rfl (c3_symbolOf nodes_33_ hp (hV.los hk) (hF.to (sup_obj (by decide)) (sup_obj (by decide))) (hC.los (k := k)) (j := k) (by rw [nlos_e (by omega)]; exact hk)) (Nat.le_of_ble_eq_true rfl) (Nat.le_refl _) (Nat.le_refl _) rfl (Nat.le_of_ble_eq_true rfl) (fun r63 s63 m63 q63 => ?_)
      obtain ⟨q63, e63, g63⟩ := q63
      rw [e63, g63]
      clear e63 g63 s63 m63
      refine e_reti dX10_lose_66 ev_nwi (Nat.le_refl _) (Nat.le_refl _) ?_
      have hr : nlose p S (nI k) = (nI (nsym p (nlos S k) k), nlos S k) := by
        unfold nlose
        rw [cif_t (nhas hV hk), i_cl (show k < 2 ^ 31 by omega), cif_f hm]
      rw [hr]
      exact ⟨q63, hC.los, fun i hi => sup_obj (by omega), rfl⟩
    · skip
      rw [q24, bI_eq0] at h27
      have hm := Classical.not_not.mp h27
      refine e_bipush (v := (-3)) dX10_lose_30 rfl ?_
      refine e_reti dX10_lose_32 ev_nwi (Nat.le_refl _) (Nat.le_refl _) ?_
      have hr : nlose p S (nI k) = (-3, S) := by
        unfold nlose
        rw [cif_t (nhas hV hk), i_cl (show k < 2 ^ 31 by omega), cif_t hm]
      rw [hr]
      exact ⟨rfl, hC, fun _ _ => rfl, rfl⟩
  · skip
    rw [q8] at h11
    have h11 := bI_eq0.mp h11
    refine e_iconst (v := (-1)) dX10_lose_14 rfl ?_
    refine e_reti dX10_lose_15 ev_nwi (Nat.le_refl _) (Nat.le_refl _) ?_
    have hr : nlose p S x = (-1, S) := by
      unfold nlose
      rw [cif_f h11]
    rw [hr]
    exact ⟨rfl, hC, fun _ _ => rfl, rfl⟩

set_option maxRecDepth 100000 in
theorem c11_lose {p : Nat} (hp : gP p) {S : ns_T} (hV : VS S) {x : Int32} {σ : ex_S} {μ : ex_L}(hF : FR σ p) (hR : NR σ S) : Ci 6 yX11_lose cX11_lose 2 (some .int) [.ref 127, .int x] TT σ μ (fun z' σ' μ' => z' = (nlose p S x).1 ∧ NR σ' (nlose p S x).2 ∧ (∀ i, i ≠ 135 → σ' i = σ i) ∧ μ' = μ) := by
  refine Cl_of (by decide +kernel) (Nat.le_of_ble_eq_true rfl) ?_
  show Ev RX11 cX11_lose 2 6 0 0 "lose" (some .int) ev_ext _ _ 0 0 0 [(0, .ref 127), (1, .int x)] [] TT σ μ
  have hn := hV.1
  have h2n := two_n hV
  refine e_aload_n dX11_lose_0 rfl 0 rfl ?_
  refine e_iload_n dX11_lose_1 rfl 1 rfl ?_
  refine e_callVi dX11_lose_2 cvX11_169 rfl tt_127 rfl (c11_isOneN hV hR x) (Nat.le_of_ble_eq_true rfl) (Nat.le_refl _) (Nat.le_refl _) rfl (Nat.le_of_ble_eq_true rfl) (fun r2 s2 m2 q2 => ?_)
  obtain ⟨q2, e2, g2⟩ := q2
  rw [e2, g2]
  clear e2 g2 s2 m2
  refine e_if_ne (t := 10) dX11_lose_5 (by decide) (fun h5 => ?_) (fun h5 => ?_)
  · skip
    rw [q2, bI_eq0] at h5
    have hP := Classical.not_not.mp h5
    obtain ⟨k, hk, rfl⟩ := i_ofl (x := x) (m := S 0 0) (by omega) hP.1 (show _ < nI (S 0 0) from hP.2)
    have um := (hR.2.2.2.1 _ hk).2.2.2.2.1
    refine e_aload_n dX11_lose_10 rfl 0 rfl ?_
    refine e_getR dX11_lose_11 lkX11_33 tt_127 rfl ?_
    refine e_iload_n dX11_lose_14 rfl 1 rfl ?_
    refine e_iald dX11_lose_15 tt_135 (vp_in_nI (by omega) (by decide)) ?_
    refine e_iconst (v := 1) dX11_lose_16 rfl ?_
    refine e_icmp_ne (t := 23) dX11_lose_17 (by decide) (fun h17 => ?_) (fun h17 => ?_)
    · skip
      have hm : ¬ (S 0 3).testBit k = true := fun q => h17 (by rw [i_cl (by omega), um, q]; rfl)
      refine e_aload_n dX11_lose_23 rfl 0 rfl ?_
      refine e_getR dX11_lose_24 lkX11_33 tt_127 rfl ?_
      refine e_iload_n dX11_lose_27 rfl 1 rfl ?_
      refine e_iconst (v := 1) dX11_lose_28 rfl ?_
      refine e_iast dX11_lose_29 tt_135 (vp_in_nI (by omega) (by decide)) ?_
      rw [i_cl (by omega)]
      refine e_aload_n dX11_lose_30 rfl 0 rfl ?_
      refine e_iload_n dX11_lose_31 rfl 1 rfl ?_
      refine e_callVi dX11_lose_32 cvX11_187 rfl tt_127 rfl (c11_symbol hp (hV.los hk) (hF.to2 (fun i _ _ => sup_obj (by omega)) (fun k _ => by rw [sup_obj (show (127 : Nat) ≠ 135 by decide)])) (hR.los (k := k)) (j := k) (by rw [nlos_e (by omega)]; exact hk)) (Nat.le_of_ble_eq_true rfl) (Nat.le_refl _) (Nat.le_refl _) rfl (Nat.le_of_ble_eq_true rfl) (fun r32 s32 m32 q32 => ?_)
      obtain ⟨q32, e32, g32⟩ := q32
      rw [e32, g32]
      clear e32 g32 s32 m32
      refine e_reti dX11_lose_35 ev_nwi (Nat.le_refl _) (Nat.le_refl _) ?_
      have hr : nlose p S (nI k) = (nI (nsym p (nlos S k) k), nlos S k) := by
        unfold nlose
        rw [cif_t (nhas hV hk), i_cl (show k < 2 ^ 31 by omega), cif_f hm]
      rw [hr]
      exact ⟨q32, hR.los, fun i hi => sup_obj hi, rfl⟩
    · skip
      have hm : (S 0 3).testBit k = true := by
        cases hb9 : (S 0 3).testBit k with
        | true => rfl
        | false => exact absurd (show nI 0 = nI 1 from by rw [i_cl (by omega), um, hb9] at h17; exact h17) (by decide)
      refine e_bipush (v := (-3)) dX11_lose_20 rfl ?_
      refine e_reti dX11_lose_22 ev_nwi (Nat.le_refl _) (Nat.le_refl _) ?_
      have hr : nlose p S (nI k) = (-3, S) := by
        unfold nlose
        rw [cif_t (nhas hV hk), i_cl (show k < 2 ^ 31 by omega), cif_t hm]
      rw [hr]
      exact ⟨rfl, hR, fun _ _ => rfl, rfl⟩
  · skip
    rw [q2] at h5
    have h5 := bI_eq0.mp h5
    refine e_iconst (v := (-1)) dX11_lose_8 rfl ?_
    refine e_reti dX11_lose_9 ev_nwi (Nat.le_refl _) (Nat.le_refl _) ?_
    have hr : nlose p S x = (-1, S) := by
      unfold nlose
      rw [cif_f h5]
    rw [hr]
    exact ⟨rfl, hR, fun _ _ => rfl, rfl⟩

set_option maxRecDepth 100000 in
theorem c10_repair {p : Nat} (hp : gP p) {S : ns_T} (hV : VS S) {x : Int32} {σ : ex_S} {μ : ex_L}(hF : FC σ p) (hC : NC σ 33 S) (hK : RKI σ p S) (h0 : σ 31 0 = 0) : Ci 9 yX10_repair cX10_repair 2 (some .int) [.ref 0, .int x] TT σ μ (fun z' σ' μ' => z' = (nrepair p S x).1 ∧ NC σ' 33 (nrepair p S x).2 ∧ (∀ i, i ≠ 31 → (i < 33 ∨ 52 ≤ i) → σ' i = σ i) ∧ σ' 31 0 = 0 ∧ μ' = μ) := by
  refine Cl_of (by decide +kernel) (Nat.le_of_ble_eq_true rfl) ?_
  show Ev RX10 cX10_repair 2 9 0 0 "repair" (some .int) ev_ext _ _ 0 0 0 [(0, .ref 0), (1, .int x)] [] TT σ μ
  have hn := hV.1
  have h2n := two_n hV
  refine e_aload_n dX10_repair_0 rfl 0 rfl ?_
  refine e_getR dX10_repair_1 lkX10_46 tt_0 rfl ?_
  refine e_getR dX10_repair_4 lkX10_89 (store_0 store_32_) rfl ?_
  refine e_iload_n dX10_repair_7 rfl 1 rfl ?_
  refine e_callVi dX10_repair_8 cvX10_165 rfl (nodes_0 (store_n store_32_)) rfl (c3_hasN nodes_33_ hC x) (Nat.le_of_ble_eq_true rfl) (Nat.le_refl _) (Nat.le_refl _) rfl (Nat.le_of_ble_eq_true rfl) (fun r8 s8 m8 q8 => ?_)
  obtain ⟨q8, e8, g8⟩ := q8
  rw [e8, g8]
  clear e8 g8 s8 m8
  refine e_if_ne (t := 16) dX10_repair_11 (by decide) (fun h11 => ?_) (fun h11 => ?_)
  · skip
    rw [q8, bI_eq0] at h11
    have hP := Classical.not_not.mp h11
    obtain ⟨k, hk, rfl⟩ := i_ofl (x := x) (m := S 0 0) (by omega) hP.1 (show _ < nI (S 0 0) from hP.2)
    refine e_aload_n dX10_repair_16 rfl 0 rfl ?_
    refine e_getR dX10_repair_17 lkX10_39 tt_0 rfl ?_
    refine e_aload_n dX10_repair_20 rfl 0 rfl ?_
    refine e_getR dX10_repair_21 lkX10_46 tt_0 rfl ?_
    refine e_getR dX10_repair_24 lkX10_89 (store_0 store_32_) rfl ?_
    refine e_iload_n dX10_repair_27 rfl 1 rfl ?_
    refine e_callVi dX10_repair_28 cvX10_232 rfl tt_30 rfl (c2_bringBack nodes_33_ (by decide) hp hV hk hC hK h0) (Nat.le_of_ble_eq_true rfl) (Nat.le_refl _) (Nat.le_refl _) rfl (Nat.le_of_ble_eq_true rfl) (fun r28 s28 m28 q28 => ?_)
    obtain ⟨q28, a1, a2, a3, a4⟩ := q28
    rw [a4]
    refine e_bipush (v := (-5)) dX10_repair_31 rfl ?_
    refine e_icmp_ne (t := 39) dX10_repair_33 (by decide) (fun h33 => ?_) (fun h33 => ?_)
    · skip
      have hm : ¬ nbk p S k = none := fun q => h33 (by rw [q28, q]; rfl)
      refine e_aload_n dX10_repair_39 rfl 0 rfl ?_
      refine e_getR dX10_repair_40 lkX10_46 tt_0 rfl ?_
      refine e_getR dX10_repair_43 lkX10_89 (store_0 store_32_) rfl ?_
      refine e_aload_n dX10_repair_46 rfl 0 rfl ?_
      refine e_getR dX10_repair_47 lkX10_12 tt_0 rfl ?_
      refine e_iload_n dX10_repair_50 rfl 1 rfl ?_
      refine e_callVi dX10_repair_51 cvX10_190 rfl (nodes_0 (store_n store_32_)) rfl (c3_symbolOf nodes_33_ hp (hV.aft k (nbk p S k)) (hF.to (a2 1 (by decide) (by decide)) (a2 2 (by decide) (by decide))) a1 (j := k) (by rw [naft_0 (by decide)]; exact hk)) (Nat.le_of_ble_eq_true rfl) (Nat.le_refl _) (Nat.le_refl _) rfl (Nat.le_of_ble_eq_true rfl) (fun r51 s51 m51 q51 => ?_)
      obtain ⟨q51, e51, g51⟩ := q51
      rw [e51, g51]
      clear e51 g51 s51 m51
      refine e_reti dX10_repair_54 ev_nwi (Nat.le_refl _) (Nat.le_refl _) ?_
      have hr : nrepair p S (nI k) = (nI (nsym p (naft S k (nbk p S k)) k), naft S k (nbk p S k)) := by
        unfold nrepair
        rw [cif_t (nhas hV hk), i_cl (show k < 2 ^ 31 by omega), cif_f hm]
      rw [hr]
      exact ⟨q51, a1, a2, a3, rfl⟩
    · skip
      have hm : nbk p S k = none := by
        cases h9 : nbk p S k with
        | none => rfl
        | some t =>
          rw [q28, h9] at h33
          exact absurd h33 (hI_some (Nat.lt_of_le_of_lt (ncs_le hV t) (by decide)))
      refine e_bipush (v := (-3)) dX10_repair_36 rfl ?_
      refine e_reti dX10_repair_38 ev_nwi (Nat.le_refl _) (Nat.le_refl _) ?_
      have hr : nrepair p S (nI k) = (-3, S) := by
        unfold nrepair
        rw [cif_t (nhas hV hk), i_cl (show k < 2 ^ 31 by omega), cif_t hm]
      rw [hr]
      rw [hm] at a1
      exact ⟨rfl, a1, a2, a3, rfl⟩
  · skip
    rw [q8] at h11
    have h11 := bI_eq0.mp h11
    refine e_iconst (v := (-1)) dX10_repair_14 rfl ?_
    refine e_reti dX10_repair_15 ev_nwi (Nat.le_refl _) (Nat.le_refl _) ?_
    have hr : nrepair p S x = (-1, S) := by
      unfold nrepair
      rw [cif_f h11]
    rw [hr]
    exact ⟨rfl, hC, fun _ _ _ => rfl, h0, rfl⟩

set_option maxRecDepth 100000 in
theorem c11_repair {p : Nat} (hp : gP p) {S : ns_T} (hV : VS S) {x : Int32} {σ : ex_S} {μ : ex_L}(hF : FR σ p) (hR : NR σ S) : Ci 10 yX11_repair cX11_repair 2 (some .int) [.ref 127, .int x] TT σ μ (fun z' σ' μ' => z' = (nrepair p S x).1 ∧ NR σ' (nrepair p S x).2 ∧ (∀ i, i ≠ 127 → i ≠ 150 → i ≠ 134 → i ≠ 135 → σ' i = σ i) ∧ (∀ k, k < 35 ∨ 37 < k → σ' 127 k = σ 127 k) ∧ μ' = μ) := by
  refine Cl_of (by decide +kernel) (Nat.le_of_ble_eq_true rfl) ?_
  show Ev RX11 cX11_repair 2 10 0 0 "repair" (some .int) ev_ext _ _ 0 0 0 [(0, .ref 127), (1, .int x)] [] TT σ μ
  have hn := hV.1
  have h2n := two_n hV
  refine e_aload_n dX11_repair_0 rfl 0 rfl ?_
  refine e_iload_n dX11_repair_1 rfl 1 rfl ?_
  refine e_callVi dX11_repair_2 cvX11_169 rfl tt_127 rfl (c11_isOneN hV hR x) (Nat.le_of_ble_eq_true rfl) (Nat.le_refl _) (Nat.le_refl _) rfl (Nat.le_of_ble_eq_true rfl) (fun r2 s2 m2 q2 => ?_)
  obtain ⟨q2, e2, g2⟩ := q2
  rw [e2, g2]
  clear e2 g2 s2 m2
  refine e_if_ne (t := 10) dX11_repair_5 (by decide) (fun h5 => ?_) (fun h5 => ?_)
  · skip
    rw [q2, bI_eq0] at h5
    have hP := Classical.not_not.mp h5
    obtain ⟨k, hk, rfl⟩ := i_ofl (x := x) (m := S 0 0) (by omega) hP.1 (show _ < nI (S 0 0) from hP.2)
    refine e_aload_n dX11_repair_10 rfl 0 rfl ?_
    refine e_iload_n dX11_repair_11 rfl 1 rfl ?_
    refine e_callVi dX11_repair_12 cvX11_199 rfl tt_127 rfl (c11_repairs hp hV hk hF hR) (Nat.le_of_ble_eq_true rfl) (Nat.le_refl _) (Nat.le_refl _) rfl (Nat.le_of_ble_eq_true rfl) (fun r12 s12 m12 q12 => ?_)
    obtain ⟨q12, a1, a2, a3, a4, a5⟩ := q12
    rw [a5]
    refine e_if_ne (t := 21) dX11_repair_15 (by decide) (fun h15 => ?_) (fun h15 => ?_)
    · skip
      rw [q12, bI_eq0] at h15
      have hm : ¬ nbk p S k = none := fun q => by
        rw [q] at h15
        exact h15 (fun z => by cases z)
      refine e_aload_n dX11_repair_21 rfl 0 rfl ?_
      refine e_iload_n dX11_repair_22 rfl 1 rfl ?_
      refine e_callVi dX11_repair_23 cvX11_187 rfl tt_127 rfl (c11_symbol hp (hV.aft k (nbk p S k)) (hF.to2 (fun i _ _ => a3 i (by omega) (by omega) (by omega) (by omega)) (fun k _ => a4 k (by omega))) a1 (j := k) (by rw [naft_0 (by decide)]; exact hk)) (Nat.le_of_ble_eq_true rfl) (Nat.le_refl _) (Nat.le_refl _) rfl (Nat.le_of_ble_eq_true rfl) (fun r23 s23 m23 q23 => ?_)
      obtain ⟨q23, e23, g23⟩ := q23
      rw [e23, g23]
      clear e23 g23 s23 m23
      refine e_reti dX11_repair_26 ev_nwi (Nat.le_refl _) (Nat.le_refl _) ?_
      have hr : nrepair p S (nI k) = (nI (nsym p (naft S k (nbk p S k)) k), naft S k (nbk p S k)) := by
        unfold nrepair
        rw [cif_t (nhas hV hk), i_cl (show k < 2 ^ 31 by omega), cif_f hm]
      rw [hr]
      exact ⟨q23, a1, a3, a4, rfl⟩
    · skip
      rw [q12] at h15
      have hm : nbk p S k = none := by
        cases h9 : nbk p S k with
        | none => rfl
        | some t => exact absurd (by rw [h9]; rfl) (bI_eq0.mp h15)
      refine e_bipush (v := (-3)) dX11_repair_18 rfl ?_
      refine e_reti dX11_repair_20 ev_nwi (Nat.le_refl _) (Nat.le_refl _) ?_
      have hr : nrepair p S (nI k) = (-3, S) := by
        unfold nrepair
        rw [cif_t (nhas hV hk), i_cl (show k < 2 ^ 31 by omega), cif_t hm]
      rw [hr]
      rw [hm] at a1
      exact ⟨rfl, a1, a3, a4, rfl⟩
  · skip
    rw [q2] at h5
    have h5 := bI_eq0.mp h5
    refine e_iconst (v := (-1)) dX11_repair_8 rfl ?_
    refine e_reti dX11_repair_9 ev_nwi (Nat.le_refl _) (Nat.le_refl _) ?_
    have hr : nrepair p S x = (-1, S) := by
      unfold nrepair
      rw [cif_f h5]
    rw [hr]
    exact ⟨rfl, hR, fun _ _ _ _ _ => rfl, fun _ _ => rfl, rfl⟩
