set_option maxRecDepth 100000 in
theorem c3_costOf {b : Nat} (hN : NodesAt b) {S : ns_T} (hV : VS S) {σ : ex_S} {μ : ex_L}(hC : NC σ b S) {j : Nat} (hj : j < S 0 0) : Ci 4 yX3_costOf cX3_costOf 5 (some .int) [.ref b, .int (nI j)] TT σ μ (fun z' σ' μ' => z' = nI (ncost S j) ∧ σ' = σ ∧ μ' = μ) := by
  refine Cl_of (by decide +kernel) (Nat.le_of_ble_eq_true rfl) ?_
  show Ev RX3 cX3_costOf 5 4 0 0 "costOf" (some .int) ev_ext _ _ 0 0 0 [(0, .ref b), (1, .int (nI j))] [] TT σ μ
  obtain ⟨n1, n2, n3, n4, n5, n6⟩ := id hC
  obtain ⟨v1, v2, v3, v4, v5, v6, v7, v8⟩ := id hV
  obtain ⟨j1, j2, j3, j4, j5, j6⟩ := n5 j hj
  obtain ⟨u1, u2, u3, u4, u5, u6, u7, u8⟩ := v7 j hj
  have cj : (nI j).toNatClampNeg = j := i_cl (by omega)
  refine e_aload_n dX3_costOf_0 rfl 0 rfl ?_
  refine e_iload_n dX3_costOf_1 rfl 1 rfl ?_
  refine e_callVi dX3_costOf_2 cvX3_65 rfl (nodes_0 hN) rfl (c3_has hN (nI j)) (Nat.le_of_ble_eq_true rfl) (Nat.le_refl _) (Nat.le_refl _) rfl (Nat.le_of_ble_eq_true rfl) (fun r2 s2 m2 q2 => ?_)
  obtain ⟨q2, e2, g2⟩ := q2
  rw [e2, g2]
  clear e2 g2 s2 m2
  refine e_if_ne (t := 10) dX3_costOf_5 (by decide) (fun h5 => ?_) (fun h5 => ?_)
  · skip
    refine e_aload_n dX3_costOf_10 rfl 0 rfl ?_
    refine e_getR dX3_costOf_11 lkX3_28 (nodes_0 hN) rfl ?_
    refine e_iload_n dX3_costOf_14 rfl 1 rfl ?_
    refine e_iald dX3_costOf_15 (nodes_2 hN) (vp_in_nI (by omega) (by decide)) ?_
    rw [cj, j2]
    refine e_iconst (v := 1) dX3_costOf_16 rfl ?_
    refine e_iadd dX3_costOf_17 ?_
    rw [show nI (S 2 j) + 1 = nI (S 2 j + 1) from nI_1 _]
    refine e_istore_n [(0, .ref b), (1, .int (nI j)), (2, .int (nI (S 2 j + 1)))] dX3_costOf_18 rfl (by decide) rfl ?_
    refine e_iconst (v := 1) dX3_costOf_19 rfl ?_
    refine e_iload_n dX3_costOf_20 rfl 2 rfl ?_
    refine e_iconst (v := 2) dX3_costOf_21 rfl ?_
    refine e_idiv dX3_costOf_22 (by decide) ?_
    rw [i_div2 (by omega)]
    refine e_mmax dX3_costOf_23 cvX3_84 (Nat.le_of_ble_eq_true rfl) (Nat.le_of_ble_eq_true rfl) (Nat.le_refl _) (Nat.le_refl _) ?_
    rw [show (1 : Int32) = nI 1 from rfl, i_max (by decide) (by omega)]
    refine e_istore_n [(0, .ref b), (1, .int (nI j)), (2, .int (nI (S 2 j + 1))), (3, .int (nI (max 1 ((S 2 j + 1) / 2))))] dX3_costOf_26 rfl (by decide) rfl ?_
    refine e_iload_n dX3_costOf_27 rfl 2 rfl ?_
    refine e_bipush (v := 9) dX3_costOf_28 rfl ?_
    refine e_aload_n dX3_costOf_30 rfl 0 rfl ?_
    refine e_getR dX3_costOf_31 lkX3_37 (nodes_0 hN) rfl ?_
    refine e_iload_n dX3_costOf_34 rfl 1 rfl ?_
    refine e_iald dX3_costOf_35 (nodes_5 hN) (vp_in_nI (by omega) (by decide)) ?_
    rw [cj, j5]
    refine e_mmin dX3_costOf_36 cvX3_89 (Nat.le_of_ble_eq_true rfl) (Nat.le_of_ble_eq_true rfl) (Nat.le_refl _) (Nat.le_refl _) ?_
    rw [show (9 : Int32) = nI 9 from rfl, i_min (by decide) (by omega)]
    refine e_iadd dX3_costOf_39 ?_
    rw [i_add]
    refine e_istore [(0, .ref b), (1, .int (nI j)), (2, .int (nI (S 2 j + 1))), (3, .int (nI (max 1 ((S 2 j + 1) / 2)))), (4, .int (nI (S 2 j + 1 + min 9 (S 4 j))))] dX3_costOf_40 (by decide) rfl ?_
    refine e_aload_n dX3_costOf_42 rfl 0 rfl ?_
    refine e_getR dX3_costOf_43 lkX3_24 (nodes_0 hN) rfl ?_
    refine e_iload_n dX3_costOf_46 rfl 1 rfl ?_
    refine e_iald dX3_costOf_47 (nodes_1 hN) (vp_in_nI (by omega) (by decide)) ?_
    rw [cj, j1]
    by_cases k48_0 : S 1 j = 1
    · rw [k48_0]
      refine e_tswIn (t := 88) dX3_costOf_48 (by decide) (by decide) rfl (by decide) ?_
      refine e_iload_n dX3_costOf_88 rfl 3 rfl ?_
      refine e_reti dX3_costOf_89 ev_nwi (Nat.le_refl _) (Nat.le_refl _) ?_
      refine ⟨?_, rfl, rfl⟩
      unfold ncost
      rw [if_pos k48_0]
    by_cases k48_1 : S 1 j = 2
    · rw [k48_1]
      refine e_tswIn (t := 90) dX3_costOf_48 (by decide) (by decide) rfl (by decide) ?_
      refine e_iconst (v := 2) dX3_costOf_90 rfl ?_
      refine e_iload_n dX3_costOf_91 rfl 2 rfl ?_
      refine e_imul dX3_costOf_92 ?_
      rw [show (2 : Int32) = nI 2 from rfl, i_mul]
      refine e_reti dX3_costOf_93 ev_nwi (Nat.le_refl _) (Nat.le_refl _) ?_
      refine ⟨?_, rfl, rfl⟩
      unfold ncost
      rw [if_neg k48_0, if_pos k48_1]
    by_cases k48_2 : S 1 j = 3
    · rw [k48_2]
      refine e_tswIn (t := 94) dX3_costOf_48 (by decide) (by decide) rfl (by decide) ?_
      refine e_iload dX3_costOf_94 4 rfl ?_
      refine e_reti dX3_costOf_96 ev_nwi (Nat.le_refl _) (Nat.le_refl _) ?_
      refine ⟨?_, rfl, rfl⟩
      unfold ncost
      rw [if_neg k48_0, if_neg k48_1, if_pos k48_2]
    by_cases k48_3 : S 1 j = 4
    · rw [k48_3]
      refine e_tswIn (t := 97) dX3_costOf_48 (by decide) (by decide) rfl (by decide) ?_
      refine e_aload_n dX3_costOf_97 rfl 0 rfl ?_
      refine e_getR dX3_costOf_98 lkX3_37 (nodes_0 hN) rfl ?_
      refine e_iload_n dX3_costOf_101 rfl 1 rfl ?_
      refine e_iald dX3_costOf_102 (nodes_5 hN) (vp_in_nI (by omega) (by decide)) ?_
      rw [cj, j5]
      refine e_iconst (v := 2) dX3_costOf_103 rfl ?_
      refine e_irem dX3_costOf_104 (by decide) ?_
      rw [show (2 : Int32) = nI 2 from rfl, i_rem (by omega) (by decide) (by decide)]
      refine e_iconst (v := 1) dX3_costOf_105 rfl ?_
      refine e_icmp_ne (t := 113) dX3_costOf_106 (by decide) (fun h106 => ?_) (fun h106 => ?_)
      · skip
        refine e_iload_n dX3_costOf_113 rfl 3 rfl ?_
        refine e_reti dX3_costOf_114 ev_nwi (Nat.le_refl _) (Nat.le_refl _) ?_
        refine ⟨?_, rfl, rfl⟩
        unfold ncost
        rw [if_neg k48_0, if_neg k48_1, if_neg k48_2, if_pos k48_3]
        rw [if_neg (fun q => h106 (congrArg nI q))]
      · skip
        refine e_iconst (v := 1) dX3_costOf_109 rfl ?_
        refine e_goto (t := 114) dX3_costOf_110 (by decide) ?_
        refine e_reti dX3_costOf_114 ev_nwi (Nat.le_refl _) (Nat.le_refl _) ?_
        refine ⟨?_, rfl, rfl⟩
        unfold ncost
        rw [if_neg k48_0, if_neg k48_1, if_neg k48_2, if_pos k48_3]
        rw [if_pos ((i_eq (by omega) (by decide)).mp (show nI (S 4 j % 2) = nI 1 from h106))]
        rfl
    by_cases k48_4 : S 1 j = 5
    · rw [k48_4]
      refine e_tswIn (t := 115) dX3_costOf_48 (by decide) (by decide) rfl (by decide) ?_
      refine e_iconst (v := 2) dX3_costOf_115 rfl ?_
      refine e_iload_n dX3_costOf_116 rfl 2 rfl ?_
      refine e_imul dX3_costOf_117 ?_
      rw [show (2 : Int32) = nI 2 from rfl, i_mul]
      refine e_aload_n dX3_costOf_118 rfl 0 rfl ?_
      refine e_getR dX3_costOf_119 lkX3_31 (nodes_0 hN) rfl ?_
      refine e_iload_n dX3_costOf_122 rfl 1 rfl ?_
      refine e_iald dX3_costOf_123 (nodes_3 hN) (vp_in_nI (by omega) (by decide)) ?_
      rw [cj, j3]
      refine e_bipush (v := (-5)) dX3_costOf_124 rfl ?_
      refine e_icmp_ne (t := 133) dX3_costOf_126 (by decide) (fun h126 => ?_) (fun h126 => ?_)
      · skip
        refine e_iconst (v := 0) dX3_costOf_133 rfl ?_
        refine e_iadd dX3_costOf_134 ?_
        
        refine e_reti dX3_costOf_135 ev_nwi (Nat.le_refl _) (Nat.le_refl _) ?_
        refine ⟨?_, rfl, rfl⟩
        unfold ncost
        rw [if_neg k48_0, if_neg k48_1, if_neg k48_2, if_neg k48_3, if_pos k48_4]
        first
            | (rw [if_pos ((wI_9 _ (by omega)).mp h126)]; exact i_add _ 5)
            | (rw [if_neg (fun q => h126 ((wI_9 _ (by omega)).mpr q))]; exact i_add _ 0)
      · skip
        refine e_iconst (v := 5) dX3_costOf_129 rfl ?_
        refine e_goto (t := 134) dX3_costOf_130 (by decide) ?_
        refine e_iadd dX3_costOf_134 ?_
        
        refine e_reti dX3_costOf_135 ev_nwi (Nat.le_refl _) (Nat.le_refl _) ?_
        refine ⟨?_, rfl, rfl⟩
        unfold ncost
        rw [if_neg k48_0, if_neg k48_1, if_neg k48_2, if_neg k48_3, if_pos k48_4]
        first
            | (rw [if_pos ((wI_9 _ (by omega)).mp h126)]; exact i_add _ 5)
            | (rw [if_neg (fun q => h126 ((wI_9 _ (by omega)).mpr q))]; exact i_add _ 0)
    by_cases k48_5 : S 1 j = 6
    · rw [k48_5]
      refine e_tswIn (t := 136) dX3_costOf_48 (by decide) (by decide) rfl (by decide) ?_
      refine e_iload dX3_costOf_136 4 rfl ?_
      refine e_aload_n dX3_costOf_138 rfl 0 rfl ?_
      refine e_getR dX3_costOf_139 lkX3_42 (nodes_0 hN) rfl ?_
      refine e_iload_n dX3_costOf_142 rfl 1 rfl ?_
      refine e_aald dX3_costOf_143 (nodes_6 hN) (Or.inl rfl) (vp_in_nI (by omega) (by decide)) (by rw [cj]; exact nodes_rowAt b (by omega)) ?_
      refine e_aload_n dX3_costOf_144 rfl 0 rfl ?_
      refine e_getR dX3_costOf_145 lkX3_37 (nodes_0 hN) rfl ?_
      refine e_iload_n dX3_costOf_148 rfl 1 rfl ?_
      refine e_iald dX3_costOf_149 (nodes_5 hN) (vp_in_nI (by omega) (by decide)) ?_
      rw [cj, j5]
      refine e_iconst (v := 3) dX3_costOf_150 rfl ?_
      refine e_iand dX3_costOf_151 ?_
      rw [i_and3 (by omega)]
      refine e_iald dX3_costOf_152 (nodes_row hN (show j < 10 by omega)) (vp_in_nI (Nat.mod_lt _ (by decide)) (by decide)) ?_
      rw [i_cl (by omega), j6 _ (Nat.mod_lt _ (by decide))]
      refine e_iadd dX3_costOf_153 ?_
      rw [i_add]
      refine e_reti dX3_costOf_154 ev_nwi (Nat.le_refl _) (Nat.le_refl _) ?_
      refine ⟨?_, rfl, rfl⟩
      unfold ncost
      rw [if_neg k48_0, if_neg k48_1, if_neg k48_2, if_neg k48_3, if_neg k48_4, if_pos k48_5]
    refine e_tswOut (t := 155) dX3_costOf_48 (by rw [i_toInt (by omega)]; omega) (by decide) ?_
    refine e_iload_n dX3_costOf_155 rfl 2 rfl ?_
    refine e_reti dX3_costOf_156 ev_nwi (Nat.le_refl _) (Nat.le_refl _) ?_
    refine ⟨?_, rfl, rfl⟩
    unfold ncost
    rw [if_neg k48_0, if_neg k48_1, if_neg k48_2, if_neg k48_3, if_neg k48_4, if_neg k48_5]
  · skip
    exact absurd (by rw [q2]; exact bI_t ⟨i_nn (by omega), by rw [n1]; exact (i_lt (by omega) (by omega)).mpr hj⟩) (fun z : r2 = 1 => absurd (h5.symm.trans z) (by decide))
