set_option maxRecDepth 100000 in
theorem c3_costOf {b : Nat} (hN : NodesAt b) {S : ns_T} (hV : VS S) {σ : ex_S} {μ : ex_L}(hC : NC σ b S) {j : Nat} (hj : j < S 0 0) : Ci 4 yX3_costOf cX3_costOf 5 (some .int) [.ref b, .int (nI j)] TT σ μ (fun z' σ' μ' => z' = nI (ncost S j) ∧ σ' = σ ∧ μ' = μ) := by
  refine Cl_of (by decide +kernel) (Nat.le_of_ble_eq_true rfl) ?_
  show Ev RX3 cX3_costOf 5 4 0 0 "costOf" (some .int) ev_ext _ _ 0 0 0 [(0, .ref b), (1, .int (nI j))] [] TT σ μ
  obtain ⟨n1, n2, n3, n4, n5, n6⟩ := id hC
  obtain ⟨v1, v2, v3, v4, v5, v6, v7, v8⟩ := id hV
  obtain ⟨j1, j2, j3, j4, j5, j6⟩ := n5 j hj
  obtain ⟨u1, u2, u3, u4, u5, u6, u7, u8⟩ := v7 j hj
  have cj : (nI j).toNatClampNeg = j := i_cl (by omega)
  refine e_aload_n dX3_costOf_0 rfl 0 rfl ?_
  refine e_iload_n dX3_costOf_1 rfl 1 rfl ?_
  refine e_callVi dX3_costOf_2 cvX3_65 rfl (nodes_0 hN) rfl (c3_has hN (nI j)) (Nat.le_of_ble_eq_true rfl) (Nat.le_refl _) (Nat.le_refl _) rfl (Nat.le_of_ble_eq_true rfl) (fun r2 s2 m2 q2 => ?_)
  obtain ⟨q2, e2, g2⟩ := q2
  rw [e2, g2]
  clear e2 g2 s2 m2
  refine e_if_ne (t := 10) dX3_costOf_5 (by decide) (fun h5 => ?_) (fun h5 => ?_)
  · skip
    refine e_aload_n dX3_costOf_10 rfl 0 rfl ?_
    refine e_getR dX3_costOf_11 lkX3_28 (nodes_0 hN) rfl ?_
    refine e_iload_n dX3_costOf_14 rfl 1 rfl ?_
    refine e_iald dX3_costOf_15 (nodes_2 hN) (vp_in_nI (by omega) (by decide)) ?_
    rw [cj, j2]
    refine e_iconst (v := 1) dX3_costOf_16 rfl ?_
    refine e_iadd dX3_costOf_17 ?_
    rw [show nI (S 2 j) + 1 = nI (S 2 j + 1) from nI_1 _]
    refine e_istore_n [(0, .ref b), (1, .int (nI j)), (2, .int (nI (S 2 j + 1)))] dX3_costOf_18 rfl (by decide) rfl ?_
    refine e_iconst (v := 1) dX3_costOf_19 rfl ?_
    refine e_iload_n dX3_costOf_20 rfl 2 rfl ?_
    refine e_iconst (v := 2) dX3_costOf_21 rfl ?_
    refine e_idiv dX3_costOf_22 (by decide) ?_
    rw [i_div2 (by omega)]
    refine e_mmax dX3_costOf_23 cvX3_84 (Nat.le_of_ble_eq_true rfl) (Nat.le_of_ble_eq_true rfl) (Nat.le_refl _) (Nat.le_refl _) ?_
    rw [show (1 : Int32) = nI 1 from rfl, i_max (by decide) (by omega)]
    refine e_istore_n [(0, .ref b), (1, .int (nI j)), (2, .int (nI (S 2 j + 1))), (3, .int (nI (max 1 ((S 2 j + 1) / 2))))] dX3_costOf_26 rfl (by decide) rfl ?_
    refine e_iload_n dX3_costOf_27 rfl 2 rfl ?_
    refine e_bipush (v := 9) dX3_costOf_28 rfl ?_
    refine e_aload_n dX3_costOf_30 rfl 0 rfl ?_
    refine e_getR dX3_costOf_31 lkX3_37 (nodes_0 hN) rfl ?_
    refine e_iload_n dX3_costOf_34 rfl 1 rfl ?_
    refine e_iald dX3_costOf_35 (nodes_5 hN) (vp_in_nI (by omega) (by decide)) ?_
    rw [cj, j5]
    refine e_mmin dX3_costOf_36 cvX3_89 (Nat.le_of_ble_eq_true rfl) (Nat.le_of_ble_eq_true rfl) (Nat.le_refl _) (Nat.le_refl _) ?_
    rw [show (9 : Int32) = nI 9 from rfl, i_min (by decide) (by omega)]
    refine e_iadd dX3_costOf_39 ?_
    rw [i_add]
    refine e_istore [(0, .ref b), (1, .int (nI j)), (2, .int (nI (S 2 j + 1))), (3, .int (nI (max 1 ((S 2 j + 1) / 2)))), (4, .int (nI (S 2 j + 1 + min 9 (S 4 j))))] dX3_costOf_40 (by decide) rfl ?_
    refine e_aload_n dX3_costOf_42 rfl 0 rfl ?_
    refine e_getR dX3_costOf_43 lkX3_24 (nodes_0 hN) rfl ?_
    refine e_iload_n dX3_costOf_46 rfl 1 rfl ?_
    refine e_iald dX3_costOf_47 (nodes_1 hN) (vp_in_nI (by omega) (by decide)) ?_
    rw [cj, j1]
    by_cases k48_0 : S 1 j = 1
    · rw [k48_0]
      refine e_tswIn (t := 88) dX3_costOf_48 (by decide) (by decide) rfl (by decide) ?_
      refine e_iload_n dX3_costOf_88 rfl 3 rfl ?_
      refine e_reti dX3_costOf_89 ev_nwi (Nat.le_refl _) (Nat.le_refl _) ?_
      refine ⟨?_, rfl, rfl⟩
      unfold ncost
      rw [if_pos k48_0]
    by_cases k48_1 : S 1 j = 2
    · rw [k48_1]
      refine e_tswIn (t := 90) dX3_costOf_48 (by decide) (by decide) rfl (by decide) ?_
      refine e_iconst (v := 2) dX3_costOf_90 rfl ?_
      refine e_iload_n dX3_costOf_91 rfl 2 rfl ?_
      refine e_imul dX3_costOf_92 ?_
      rw [show (2 : Int32) = nI 2 from rfl, i_mul]
      refine e_reti dX3_costOf_93 ev_nwi (Nat.le_refl _) (Nat.le_refl _) ?_
      refine ⟨?_, rfl, rfl⟩
      unfold ncost
      rw [if_neg k48_0, if_pos k48_1]
    by_cases k48_2 : S 1 j = 3
    · rw [k48_2]
      refine e_tswIn (t := 94) dX3_costOf_48 (by decide) (by decide) rfl (by decide) ?_
      refine e_iload dX3_costOf_94 4 rfl ?_
      refine e_reti dX3_costOf_96 ev_nwi (Nat.le_refl _) (Nat.le_refl _) ?_
      refine ⟨?_, rfl, rfl⟩
      unfold ncost
      rw [if_neg k48_0, if_neg k48_1, if_pos k48_2]
    by_cases k48_3 : S 1 j = 4
    · rw [k48_3]
      refine e_tswIn (t := 97) dX3_costOf_48 (by decide) (by decide) rfl (by decide) ?_
      refine e_aload_n dX3_costOf_97 rfl 0 rfl ?_
      refine e_getR dX3_costOf_98 lkX3_37 (nodes_0 hN) rfl ?_
      refine e_iload_n dX3_costOf_101 rfl 1 rfl ?_
      refine e_iald dX3_costOf_102 (nodes_5 hN) (vp_in_nI (by omega) (by decide)) ?_
      rw [cj, j5]
      refine e_iconst (v := 2) dX3_costOf_103 rfl ?_
      refine e_irem dX3_costOf_104 (by decide) ?_
      rw [show (2 : Int32) = nI 2 from rfl, i_rem (by omega) (by decide) (by decide)]
      refine e_iconst (v := 1) dX3_costOf_105 rfl ?_
      refine e_icmp_ne (t := 113) dX3_costOf_106 (by decide) (fun h106 => ?_) (fun h106 => ?_)
      · skip
        refine e_iload_n dX3_costOf_113 rfl 3 rfl ?_
        refine e_reti dX3_costOf_114 ev_nwi (Nat.le_refl _) (Nat.le_refl _) ?_
        refine ⟨?_, rfl, rfl⟩
        unfold ncost
        rw [if_neg k48_0, if_neg k48_1, if_neg k48_2, if_pos k48_3]
        rw [if_neg (fun q => h106 (congrArg nI q))]
      · skip
        refine e_iconst (v := 1) dX3_costOf_109 rfl ?_
        refine e_goto (t := 114) dX3_costOf_110 (by decide) ?_
        refine e_reti dX3_costOf_114 ev_nwi (Nat.le_refl _) (Nat.le_refl _) ?_
        refine ⟨?_, rfl, rfl⟩
        unfold ncost
        rw [if_neg k48_0, if_neg k48_1, if_neg k48_2, if_pos k48_3]
        rw [if_pos ((i_eq (by omega) (by decide)).mp (show nI (S 4 j % 2) = nI 1 from h106))]
        rfl
    by_cases k48_4 : S 1 j = 5
    · rw [k48_4]
      refine e_tswIn (t := 115) dX3_costOf_48 (by decide) (by decide) rfl (by decide) ?_
      refine e_iconst (v := 2) dX3_costOf_115 rfl ?_
      refine e_iload_n dX3_costOf_116 rfl 2 rfl ?_
      refine e_imul dX3_costOf_117 ?_
      rw [show (2 : Int32) = nI 2 from rfl, i_mul]
      refine e_aload_n dX3_costOf_118 rfl 0 rfl ?_
      refine e_getR dX3_costOf_119 lkX3_31 (nodes_0 hN) rfl ?_
      refine e_iload_n dX3_costOf_122 rfl 1 rfl ?_
      refine e_iald dX3_costOf_123 (nodes_3 hN) (vp_in_nI (by omega) (by decide)) ?_
      rw [cj, j3]
      refine e_bipush (v := (-5)) dX3_costOf_124 rfl ?_
      refine e_icmp_ne (t := 133) dX3_costOf_126 (by decide) (fun h126 => ?_) (fun h126 => ?_)
      · skip
        refine e_iconst (v := 0) dX3_costOf_133 rfl ?_
        refine e_iadd dX3_costOf_134 ?_
        
        refine e_reti dX3_costOf_135 ev_nwi (Nat.le_refl _) (Nat.le_refl _) ?_
        refine ⟨?_, rfl, rfl⟩
        unfold ncost
        rw [if_neg k48_0, if_neg k48_1, if_neg k48_2, if_neg k48_3, if_pos k48_4]
        first
            | (rw [if_pos ((wI_9 _ (by omega)).mp h126)]; exact i_add _ 5)
            | (rw [if_neg (fun q => h126 ((wI_9 _ (by omega)).mpr q))]; exact i_add _ 0)
      · skip
        refine e_iconst (v := 5) dX3_costOf_129 rfl ?_
        refine e_goto (t := 134) dX3_costOf_130 (by decide) ?_
        refine e_iadd dX3_costOf_134 ?_
        
        refine e_reti dX3_costOf_135 ev_nwi (Nat.le_refl _) (Nat.le_refl _) ?_
        refine ⟨?_, rfl, rfl⟩
        unfold ncost
        rw [if_neg k48_0, if_neg k48_1, if_neg k48_2, if_neg k48_3, if_pos k48_4]
        first
            | (rw [if_pos ((wI_9 _ (by omega)).mp h126)]; exact i_add _ 5)
            | (rw [if_neg (fun q => h126 ((wI_9 _ (by omega)).mpr q))]; exact i_add _ 0)
    by_cases k48_5 : S 1 j = 6
    · rw [k48_5]
      refine e_tswIn (t := 136) dX3_costOf_48 (by decide) (by decide) rfl (by decide) ?_
      refine e_iload dX3_costOf_136 4 rfl ?_
      refine e_aload_n dX3_costOf_138 rfl 0 rfl ?_
      refine e_getR dX3_costOf_139 lkX3_42 (nodes_0 hN) rfl ?_
      refine e_iload_n dX3_costOf_142 rfl 1 rfl ?_
      refine e_aald dX3_costOf_143 (nodes_6 hN) (Or.inl rfl) (vp_in_nI (by omega) (by decide)) (by rw [cj]; exact nodes_rowAt b (by omega)) ?_
      refine e_aload_n dX3_costOf_144 rfl 0 rfl ?_
      refine e_getR dX3_costOf_145 lkX3_37 (nodes_0 hN) rfl ?_
      refine e_iload_n dX3_costOf_148 rfl 1 rfl ?_
      refine e_iald dX3_costOf_149 (nodes_5 hN) (vp_in_nI (by omega) (by decide)) ?_
      rw [cj, j5]
      refine e_iconst (v := 3) dX3_costOf_150 rfl ?_
      refine e_iand dX3_costOf_151 ?_
      rw [i_and3 (by omega)]
      refine e_iald dX3_costOf_152 (nodes_row hN (show j < 10 by omega)) (vp_in_nI (Nat.mod_lt _ (by decide)) (by decide)) ?_
      rw [i_cl (by omega), j6 _ (Nat.mod_lt _ (by decide))]
      refine e_iadd dX3_costOf_153 ?_
      rw [i_add]
      refine e_reti dX3_costOf_154 ev_nwi (Nat.le_refl _) (Nat.le_refl _) ?_
      refine ⟨?_, rfl, rfl⟩
      unfold ncost
      rw [if_neg k48_0, if_neg k48_1, if_neg k48_2, if_neg k48_3, if_neg k48_4, if_pos k48_5]
    refine e_tswOut (t := 155) dX3_costOf_48 (by rw [i_toInt (by omega)]; omega) (by decide) ?_
    refine e_iload_n dX3_costOf_155 rfl 2 rfl ?_
    refine e_reti dX3_costOf_156 ev_nwi (Nat.le_refl _) (Nat.le_refl _) ?_
    refine ⟨?_, rfl, rfl⟩
    unfold ncost
    rw [if_neg k48_0, if_neg k48_1, if_neg k48_2, if_neg k48_3, if_neg k48_4, if_neg k48_5]
  · skip
    exact absurd (by rw [q2]; exact bI_t ⟨i_nn (by omega), by rw [n1]; exact (i_lt (by omega) (by omega)).mpr hj⟩) (fun z : r2 = 1 => absurd (h5.symm.trans z) (by decide))

set_option maxRecDepth 100000 in
theorem c11_cost {S : ns_T} (hV : VS S) {σ : ex_S} {μ : ex_L}(hR : NR σ S) {j : Nat} (hj : j < S 0 0) : Ci 4 yX11_cost cX11_cost 5 (some .int) [.ref 127, .int (nI j)] TT σ μ (fun z' σ' μ' => z' = nI (ncost S j) ∧ σ' = σ ∧ μ' = μ) := by
  refine Cl_of (by decide +kernel) (Nat.le_of_ble_eq_true rfl) ?_
  show Ev RX11 cX11_cost 5 4 0 0 "cost" (some .int) ev_ext _ _ 0 0 0 [(0, .ref 127), (1, .int (nI j))] [] TT σ μ
  obtain ⟨n1, n2, n3, n4, n5⟩ := id hR
  obtain ⟨v1, v2, v3, v4, v5, v6, v7, v8⟩ := id hV
  obtain ⟨j1, j2, j3, j4, j5, j6, j7⟩ := n4 j hj
  obtain ⟨u1, u2, u3, u4, u5, u6, u7, u8⟩ := v7 j hj
  have cj : (nI j).toNatClampNeg = j := i_cl (by omega)
  refine e_aload_n dX11_cost_0 rfl 0 rfl ?_
  refine e_getR dX11_cost_1 lkX11_24 tt_127 rfl ?_
  refine e_iload_n dX11_cost_4 rfl 1 rfl ?_
  refine e_iald dX11_cost_5 tt_132 (vp_in_nI (by omega) (by decide)) ?_
  rw [cj, j2]
  refine e_iconst (v := 1) dX11_cost_6 rfl ?_
  refine e_iadd dX11_cost_7 ?_
  rw [show nI (S 2 j) + 1 = nI (S 2 j + 1) from nI_1 _]
  refine e_istore_n [(0, .ref 127), (1, .int (nI j)), (2, .int (nI (S 2 j + 1)))] dX11_cost_8 rfl (by decide) rfl ?_
  refine e_iconst (v := 1) dX11_cost_9 rfl ?_
  refine e_iload_n dX11_cost_10 rfl 2 rfl ?_
  refine e_iconst (v := 2) dX11_cost_11 rfl ?_
  refine e_idiv dX11_cost_12 (by decide) ?_
  rw [i_div2 (by omega)]
  refine e_mmax dX11_cost_13 cvX11_172 (Nat.le_of_ble_eq_true rfl) (Nat.le_of_ble_eq_true rfl) (Nat.le_refl _) (Nat.le_refl _) ?_
  rw [show (1 : Int32) = nI 1 from rfl, i_max (by decide) (by omega)]
  refine e_istore_n [(0, .ref 127), (1, .int (nI j)), (2, .int (nI (S 2 j + 1))), (3, .int (nI (max 1 ((S 2 j + 1) / 2))))] dX11_cost_16 rfl (by decide) rfl ?_
  refine e_iload_n dX11_cost_17 rfl 2 rfl ?_
  refine e_bipush (v := 9) dX11_cost_18 rfl ?_
  refine e_aload_n dX11_cost_20 rfl 0 rfl ?_
  refine e_getR dX11_cost_21 lkX11_30 tt_127 rfl ?_
  refine e_iload_n dX11_cost_24 rfl 1 rfl ?_
  refine e_iald dX11_cost_25 tt_134 (vp_in_nI (by omega) (by decide)) ?_
  rw [cj, j4]
  refine e_mmin dX11_cost_26 cvX11_177 (Nat.le_of_ble_eq_true rfl) (Nat.le_of_ble_eq_true rfl) (Nat.le_refl _) (Nat.le_refl _) ?_
  rw [show (9 : Int32) = nI 9 from rfl, i_min (by decide) (by omega)]
  refine e_iadd dX11_cost_29 ?_
  rw [i_add]
  refine e_istore [(0, .ref 127), (1, .int (nI j)), (2, .int (nI (S 2 j + 1))), (3, .int (nI (max 1 ((S 2 j + 1) / 2)))), (4, .int (nI (S 2 j + 1 + min 9 (S 4 j))))] dX11_cost_30 (by decide) rfl ?_
  refine e_aload_n dX11_cost_32 rfl 0 rfl ?_
  refine e_getR dX11_cost_33 lkX11_21 tt_127 rfl ?_
  refine e_iload_n dX11_cost_36 rfl 1 rfl ?_
  refine e_iald dX11_cost_37 tt_131 (vp_in_nI (by omega) (by decide)) ?_
  rw [cj, j1]
  by_cases k38_0 : S 1 j = 1
  · rw [k38_0]
    refine e_tswIn (t := 76) dX11_cost_38 (by decide) (by decide) rfl (by decide) ?_
    refine e_iload_n dX11_cost_76 rfl 3 rfl ?_
    refine e_reti dX11_cost_77 ev_nwi (Nat.le_refl _) (Nat.le_refl _) ?_
    refine ⟨?_, rfl, rfl⟩
    unfold ncost
    rw [if_pos k38_0]
  by_cases k38_1 : S 1 j = 2
  · rw [k38_1]
    refine e_tswIn (t := 78) dX11_cost_38 (by decide) (by decide) rfl (by decide) ?_
    refine e_iconst (v := 2) dX11_cost_78 rfl ?_
    refine e_iload_n dX11_cost_79 rfl 2 rfl ?_
    refine e_imul dX11_cost_80 ?_
    rw [show (2 : Int32) = nI 2 from rfl, i_mul]
    refine e_reti dX11_cost_81 ev_nwi (Nat.le_refl _) (Nat.le_refl _) ?_
    refine ⟨?_, rfl, rfl⟩
    unfold ncost
    rw [if_neg k38_0, if_pos k38_1]
  by_cases k38_2 : S 1 j = 3
  · rw [k38_2]
    refine e_tswIn (t := 82) dX11_cost_38 (by decide) (by decide) rfl (by decide) ?_
    refine e_iload dX11_cost_82 4 rfl ?_
    refine e_reti dX11_cost_84 ev_nwi (Nat.le_refl _) (Nat.le_refl _) ?_
    refine ⟨?_, rfl, rfl⟩
    unfold ncost
    rw [if_neg k38_0, if_neg k38_1, if_pos k38_2]
  by_cases k38_3 : S 1 j = 4
  · rw [k38_3]
    refine e_tswIn (t := 85) dX11_cost_38 (by decide) (by decide) rfl (by decide) ?_
    refine e_aload_n dX11_cost_85 rfl 0 rfl ?_
    refine e_getR dX11_cost_86 lkX11_30 tt_127 rfl ?_
    refine e_iload_n dX11_cost_89 rfl 1 rfl ?_
    refine e_iald dX11_cost_90 tt_134 (vp_in_nI (by omega) (by decide)) ?_
    rw [cj, j4]
    refine e_iconst (v := 2) dX11_cost_91 rfl ?_
    refine e_irem dX11_cost_92 (by decide) ?_
    rw [show (2 : Int32) = nI 2 from rfl, i_rem (by omega) (by decide) (by decide)]
    refine e_iconst (v := 1) dX11_cost_93 rfl ?_
    refine e_icmp_ne (t := 101) dX11_cost_94 (by decide) (fun h94 => ?_) (fun h94 => ?_)
    · skip
      refine e_iload_n dX11_cost_101 rfl 3 rfl ?_
      refine e_reti dX11_cost_102 ev_nwi (Nat.le_refl _) (Nat.le_refl _) ?_
      refine ⟨?_, rfl, rfl⟩
      unfold ncost
      rw [if_neg k38_0, if_neg k38_1, if_neg k38_2, if_pos k38_3]
      rw [if_neg (fun q => h94 (congrArg nI q))]
    · skip
      refine e_iconst (v := 1) dX11_cost_97 rfl ?_
      refine e_goto (t := 102) dX11_cost_98 (by decide) ?_
      refine e_reti dX11_cost_102 ev_nwi (Nat.le_refl _) (Nat.le_refl _) ?_
      refine ⟨?_, rfl, rfl⟩
      unfold ncost
      rw [if_neg k38_0, if_neg k38_1, if_neg k38_2, if_pos k38_3]
      rw [if_pos ((i_eq (by omega) (by decide)).mp (show nI (S 4 j % 2) = nI 1 from h94))]
      rfl
  by_cases k38_4 : S 1 j = 5
  · rw [k38_4]
    refine e_tswIn (t := 103) dX11_cost_38 (by decide) (by decide) rfl (by decide) ?_
    refine e_iconst (v := 2) dX11_cost_103 rfl ?_
    refine e_iload_n dX11_cost_104 rfl 2 rfl ?_
    refine e_imul dX11_cost_105 ?_
    rw [show (2 : Int32) = nI 2 from rfl, i_mul]
    refine e_aload_n dX11_cost_106 rfl 0 rfl ?_
    refine e_getR dX11_cost_107 lkX11_27 tt_127 rfl ?_
    refine e_iload_n dX11_cost_110 rfl 1 rfl ?_
    refine e_iald dX11_cost_111 tt_133 (vp_in_nI (by omega) (by decide)) ?_
    rw [cj, j3]
    refine e_bipush (v := (-5)) dX11_cost_112 rfl ?_
    refine e_icmp_ne (t := 121) dX11_cost_114 (by decide) (fun h114 => ?_) (fun h114 => ?_)
    · skip
      refine e_iconst (v := 0) dX11_cost_121 rfl ?_
      refine e_iadd dX11_cost_122 ?_
      refine e_reti dX11_cost_123 ev_nwi (Nat.le_refl _) (Nat.le_refl _) ?_
      refine ⟨?_, rfl, rfl⟩
      unfold ncost
      rw [if_neg k38_0, if_neg k38_1, if_neg k38_2, if_neg k38_3, if_pos k38_4]
      first
        | (rw [if_pos ((wI_9 _ (by omega)).mp h114)]; exact i_add _ 5)
        | (rw [if_neg (fun q => h114 ((wI_9 _ (by omega)).mpr q))]; exact i_add _ 0)
    · skip
      refine e_iconst (v := 5) dX11_cost_117 rfl ?_
      refine e_goto (t := 122) dX11_cost_118 (by decide) ?_
      refine e_iadd dX11_cost_122 ?_
      refine e_reti dX11_cost_123 ev_nwi (Nat.le_refl _) (Nat.le_refl _) ?_
      refine ⟨?_, rfl, rfl⟩
      unfold ncost
      rw [if_neg k38_0, if_neg k38_1, if_neg k38_2, if_neg k38_3, if_pos k38_4]
      first
        | (rw [if_pos ((wI_9 _ (by omega)).mp h114)]; exact i_add _ 5)
        | (rw [if_neg (fun q => h114 ((wI_9 _ (by omega)).mpr q))]; exact i_add _ 0)
  by_cases k38_5 : S 1 j = 6
  · rw [k38_5]
    refine e_tswIn (t := 124) dX11_cost_38 (by decide) (by decide) rfl (by decide) ?_
    refine e_iload dX11_cost_124 4 rfl ?_
    refine e_aload_n dX11_cost_126 rfl 0 rfl ?_
    refine e_getR dX11_cost_127 lkX11_39 tt_127 rfl ?_
    refine e_iconst (v := 4) dX11_cost_130 rfl ?_
    refine e_iload_n dX11_cost_131 rfl 1 rfl ?_
    refine e_imul dX11_cost_132 ?_
    rw [show (4 : Int32) = nI 4 from rfl, i_mul]
    refine e_aload_n dX11_cost_133 rfl 0 rfl ?_
    refine e_getR dX11_cost_134 lkX11_30 tt_127 rfl ?_
    refine e_iload_n dX11_cost_137 rfl 1 rfl ?_
    refine e_iald dX11_cost_138 tt_134 (vp_in_nI (by omega) (by decide)) ?_
    rw [cj, j4]
    refine e_iconst (v := 4) dX11_cost_139 rfl ?_
    refine e_irem dX11_cost_140 (by decide) ?_
    rw [show (4 : Int32) = nI 4 from rfl, i_rem (by omega) (by decide) (by decide)]
    have hq4 : S 4 j % 4 < 4 := Nat.mod_lt _ (by decide)
    refine e_iadd dX11_cost_141 ?_
    rw [i_add]
    refine e_iald dX11_cost_142 tt_137 (vp_in_nI (by omega) (by decide)) ?_
    rw [i_cl (by omega), j7 _ (Nat.mod_lt _ (by decide))]
    refine e_iadd dX11_cost_143 ?_
    rw [i_add]
    refine e_reti dX11_cost_144 ev_nwi (Nat.le_refl _) (Nat.le_refl _) ?_
    refine ⟨?_, rfl, rfl⟩
    unfold ncost
    rw [if_neg k38_0, if_neg k38_1, if_neg k38_2, if_neg k38_3, if_neg k38_4, if_pos k38_5]
  refine e_tswOut (t := 145) dX11_cost_38 (by rw [i_toInt (by omega)]; omega) (by decide) ?_
  refine e_iload_n dX11_cost_145 rfl 2 rfl ?_
  refine e_reti dX11_cost_146 ev_nwi (Nat.le_refl _) (Nat.le_refl _) ?_
  refine ⟨?_, rfl, rfl⟩
  unfold ncost
  rw [if_neg k38_0, if_neg k38_1, if_neg k38_2, if_neg k38_3, if_neg k38_4, if_neg k38_5]

set_option maxRecDepth 100000 in
theorem c11_times {p : Nat} (hp : gP p) {a b : Nat} (ha : a < 16) (hb : b < 16) {σ : ex_S} {μ : ex_L}(hF : FR σ p) : Ci 2 yX11_times cX11_times 3 (some .int) [.ref 127, .int (nI a), .int (nI b)] TT σ μ (fun z' σ' μ' => z' = nI (gmul p a b) ∧ σ' = σ ∧ μ' = μ) := by
  refine Cl_of (by decide +kernel) (Nat.le_of_ble_eq_true rfl) ?_
  show Ev RX11 cX11_times 3 2 0 0 "times" (some .int) ev_ext _ _ 0 0 0 [(0, .ref 127), (1, .int (nI a)), (2, .int (nI b))] [] TT σ μ
  refine e_aload_n dX11_times_0 rfl 0 rfl ?_
  refine e_getR dX11_times_1 lkX11_9 tt_127 rfl ?_
  refine e_bipush (v := 16) dX11_times_4 rfl ?_
  refine e_iload_n dX11_times_6 rfl 1 rfl ?_
  refine e_imul dX11_times_7 ?_
  refine e_iload_n dX11_times_8 rfl 2 rfl ?_
  refine e_iadd dX11_times_9 ?_
  rw [i_lin]
  refine e_iald dX11_times_10 tt_128 (vp_in_nI (by omega) (by decide)) ?_
  refine e_reti dX11_times_11 ev_nwi (Nat.le_refl _) (Nat.le_refl _) ?_
  exact ⟨by rw [i_cl (by omega)]; exact hF.2.2.1 a ha b hb, rfl, rfl⟩

set_option maxRecDepth 100000 in
theorem c3_symbolOf {b : Nat} (hN : NodesAt b) {p : Nat} (hp : gP p) {S : ns_T} (hV : VS S) {σ : ex_S} {μ : ex_L}(hF : FC σ p) (hC : NC σ b S) {j : Nat} (hj : j < S 0 0) : Ci 4 yX3_symbolOf cX3_symbolOf 5 (some .int) [.ref b, .ref 1, .int (nI j)] TT σ μ (fun z' σ' μ' => z' = nI (nsym p S j) ∧ σ' = σ ∧ μ' = μ) := by
  refine Cl_of (by decide +kernel) (Nat.le_of_ble_eq_true rfl) ?_
  show Ev RX3 cX3_symbolOf 5 4 0 0 "symbolOf" (some .int) ev_ext _ _ 0 0 0 [(0, .ref b), (1, .ref 1), (2, .int (nI j))] [] TT σ μ
  obtain ⟨n1, n2, n3, n4, n5, n6⟩ := id hC
  obtain ⟨v1, v2, v3, v4, v5, v6, v7, v8⟩ := id hV
  obtain ⟨j1, j2, j3, j4, j5, j6⟩ := n5 j hj
  obtain ⟨u1, u2, u3, u4, u5, u6, u7, u8⟩ := v7 j hj
  have cj : (nI j).toNatClampNeg = j := i_cl (by omega)
  have loop : ∀ (m e a : Nat), e + m = S 0 1 → a < 16 → nsymF p S j m e a = nsym p S j → Ev RX3 cX3_symbolOf 5 4 0 0 "symbolOf" (some .int) ev_ext TT.length (fun v9 T9 σ9 μ9 => T9 = TT ∧ ∃ z9, v9 = some (.int z9) ∧ (fun z' σ' μ' => z' = nI (nsym p S j) ∧ σ' = σ ∧ μ' = μ) z9 σ9 μ9) 0 0 5 [(0, .ref b), (1, .ref 1), (2, .int (nI j)), (3, .int (nI a)), (4, .int (nI e))] [] TT σ μ := by
    intro m
    induction m with
    | zero =>
      intro e a he ha hR2
      obtain rfl : e = S 0 1 := by omega
      refine e_iload dX3_symbolOf_5 4 rfl ?_
      refine e_aload_n dX3_symbolOf_7 rfl 0 rfl ?_
      refine e_getI dX3_symbolOf_8 lkX3_15 (nodes_0 hN) rfl ?_
      rw [n2]
      refine e_icmp_ge (t := 53) dX3_symbolOf_11 (by decide) (fun h11 => ?_) (fun h11 => ?_)
      · skip
        refine e_iload_n dX3_symbolOf_53 rfl 3 rfl ?_
        refine e_reti dX3_symbolOf_54 ev_nwi (Nat.le_refl _) (Nat.le_refl _) ?_
        exact ⟨by rw [← hR2]; rfl, rfl, rfl⟩
      · skip
        exact absurd (show nI (S 0 1) ≤ nI (S 0 1) from (i_le (by omega) (by omega)).mpr (by omega)) h11
    | succ m ih =>
      intro e a he ha hR2
      have hwe := v8 e (by omega)
      have hne := n6 e (by omega)
      refine e_iload dX3_symbolOf_5 4 rfl ?_
      refine e_aload_n dX3_symbolOf_7 rfl 0 rfl ?_
      refine e_getI dX3_symbolOf_8 lkX3_15 (nodes_0 hN) rfl ?_
      rw [n2]
      refine e_icmp_ge (t := 53) dX3_symbolOf_11 (by decide) (fun h11 => ?_) (fun h11 => ?_)
      · skip
        exact absurd ((i_le (by omega) (by omega)).mp (show nI (S 0 1) ≤ nI e from h11)) (by omega)
      · skip
        refine e_aload_n dX3_symbolOf_14 rfl 0 rfl ?_
        refine e_iload_n dX3_symbolOf_15 rfl 2 rfl ?_
        refine e_callVi dX3_symbolOf_16 cvX3_65 rfl (nodes_0 hN) rfl (c3_has hN (nI j)) (Nat.le_of_ble_eq_true rfl) (Nat.le_refl _) (Nat.le_refl _) rfl (Nat.le_of_ble_eq_true rfl) (fun r16 s16 m16 q16 => ?_)
        obtain ⟨q16, e16, g16⟩ := q16
        rw [e16, g16]
        clear e16 g16 s16 m16
        refine e_if_eq (t := 53) dX3_symbolOf_19 (by decide) (fun h19 => ?_) (fun h19 => ?_)
        · skip
          exact absurd (by rw [q16]; exact bI_t ⟨i_nn (by omega), by rw [n1]; exact (i_lt (by omega) (by omega)).mpr hj⟩) (fun z : r16 = 1 => absurd (h19.symm.trans z) (by decide))
        · skip
          refine e_iload_n dX3_symbolOf_22 rfl 3 rfl ?_
          refine e_aload_n dX3_symbolOf_23 rfl 1 rfl ?_
          refine e_aload_n dX3_symbolOf_24 rfl 0 rfl ?_
          refine e_getR dX3_symbolOf_25 lkX3_48 (nodes_0 hN) rfl ?_
          refine e_iload dX3_symbolOf_28 4 rfl ?_
          refine e_iald dX3_symbolOf_30 (nodes_18 hN) (vp_in_nI (by omega) (by decide)) ?_
          rw [i_cl (by omega), hne.2]
          refine e_aload_n dX3_symbolOf_31 rfl 0 rfl ?_
          refine e_getR dX3_symbolOf_32 lkX3_34 (nodes_0 hN) rfl ?_
          refine e_iload_n dX3_symbolOf_35 rfl 2 rfl ?_
          refine e_iald dX3_symbolOf_36 (nodes_4 hN) (vp_in_nI (by omega) (by decide)) ?_
          rw [cj, j4]
          refine e_iload dX3_symbolOf_37 4 rfl ?_
          refine e_callNi dX3_symbolOf_39 cnX3_72 nlX3_72 rfl (c10_numberAt _ _) (Nat.le_of_ble_eq_true rfl) (Nat.le_refl _) (Nat.le_refl _) rfl (Nat.le_of_ble_eq_true rfl) (fun r39 s39 m39 q39 => ?_)
          obtain ⟨q39, e39, g39⟩ := q39
          rw [e39, g39]
          clear e39 g39 s39 m39
          rw [q39, i_nib (by omega) (by omega)]
          refine e_callVi dX3_symbolOf_42 cvX3_79 rfl tt_1 rfl (c4_productS hp hwe.2.2.1 (nib_lt _ _) hF) (Nat.le_of_ble_eq_true rfl) (Nat.le_refl _) (Nat.le_refl _) rfl (Nat.le_of_ble_eq_true rfl) (fun r42 s42 m42 q42 => ?_)
          obtain ⟨q42, e42, g42⟩ := q42
          rw [e42, g42]
          clear e42 g42 s42 m42
          rw [q42]
          refine e_ixor dX3_symbolOf_45 ?_
          rw [nx_xor]
          refine e_istore_n [(0, .ref b), (1, .ref 1), (2, .int (nI j)), (3, .int (nI (a ^^^ gmul p (S 7 e) (nib (S 5 j) e)))), (4, .int (nI e))] dX3_symbolOf_46 rfl (by decide) rfl ?_
          refine e_iinc (nI (e + 1)) [(0, .ref b), (1, .ref 1), (2, .int (nI j)), (3, .int (nI (a ^^^ gmul p (S 7 e) (nib (S 5 j) e)))), (4, .int (nI (e + 1)))] dX3_symbolOf_47 4 rfl (nI_1 e) (by decide) rfl ?_
          refine e_goto (t := 5) dX3_symbolOf_50 (by decide) ?_
          exact ih (e + 1) _ (by omega) (Nat.xor_lt_two_pow (n := 4) ha (gmul_lt hp _ hwe.2.2.1 _ (nib_lt _ _))) hR2
  refine e_iconst (v := 0) dX3_symbolOf_0 rfl ?_
  refine e_istore_n [(0, .ref b), (1, .ref 1), (2, .int (nI j)), (3, .int 0)] dX3_symbolOf_1 rfl (by decide) rfl ?_
  refine e_iconst (v := 0) dX3_symbolOf_2 rfl ?_
  refine e_istore [(0, .ref b), (1, .ref 1), (2, .int (nI j)), (3, .int 0), (4, .int 0)] dX3_symbolOf_3 (by decide) rfl ?_
  exact loop _ 0 0 (by omega) (by decide) rfl

set_option maxRecDepth 100000 in
theorem c11_symbol {p : Nat} (hp : gP p) {S : ns_T} (hV : VS S) {σ : ex_S} {μ : ex_L}(hF : FR σ p) (hR : NR σ S) {j : Nat} (hj : j < S 0 0) : Ci 3 yX11_symbol cX11_symbol 4 (some .int) [.ref 127, .int (nI j)] TT σ μ (fun z' σ' μ' => z' = nI (nsym p S j) ∧ σ' = σ ∧ μ' = μ) := by
  refine Cl_of (by decide +kernel) (Nat.le_of_ble_eq_true rfl) ?_
  show Ev RX11 cX11_symbol 4 3 0 0 "symbol" (some .int) ev_ext _ _ 0 0 0 [(0, .ref 127), (1, .int (nI j))] [] TT σ μ
  obtain ⟨n1, n2, n3, n4, n5⟩ := id hR
  obtain ⟨v1, v2, v3, v4, v5, v6, v7, v8⟩ := id hV
  obtain ⟨j1, j2, j3, j4, j5, j6, j7⟩ := n4 j hj
  obtain ⟨u1, u2, u3, u4, u5, u6, u7, u8⟩ := v7 j hj
  have cj : (nI j).toNatClampNeg = j := i_cl (by omega)
  have loop : ∀ (m e a : Nat), e + m = S 0 1 → a < 16 → nsymF p S j m e a = nsym p S j → Ev RX11 cX11_symbol 4 3 0 0 "symbol" (some .int) ev_ext TT.length (fun v9 T9 σ9 μ9 => T9 = TT ∧ ∃ z9, v9 = some (.int z9) ∧ (fun z' σ' μ' => z' = nI (nsym p S j) ∧ σ' = σ ∧ μ' = μ) z9 σ9 μ9) 0 0 4 [(0, .ref 127), (1, .int (nI j)), (2, .int (nI a)), (3, .int (nI e))] [] TT σ μ := by
    intro m
    induction m with
    | zero =>
      intro e a he ha hR2
      obtain rfl : e = S 0 1 := by omega
      refine e_iload_n dX11_symbol_4 rfl 3 rfl ?_
      refine e_aload_n dX11_symbol_5 rfl 0 rfl ?_
      refine e_getI dX11_symbol_6 lkX11_134 tt_127 rfl ?_
      rw [n2]
      refine e_icmp_ge (t := 41) dX11_symbol_9 (by decide) (fun h9 => ?_) (fun h9 => ?_)
      · skip
        refine e_iload_n dX11_symbol_41 rfl 2 rfl ?_
        refine e_reti dX11_symbol_42 ev_nwi (Nat.le_refl _) (Nat.le_refl _) ?_
        exact ⟨by rw [← hR2]; rfl, rfl, rfl⟩
      · skip
        exact absurd (show nI (S 0 1) ≤ nI (S 0 1) from (i_le (by omega) (by omega)).mpr (by omega)) h9
    | succ m ih =>
      intro e a he ha hR2
      have hwe := v8 e (by omega)
      have hne := n5 e (by omega)
      refine e_iload_n dX11_symbol_4 rfl 3 rfl ?_
      refine e_aload_n dX11_symbol_5 rfl 0 rfl ?_
      refine e_getI dX11_symbol_6 lkX11_134 tt_127 rfl ?_
      rw [n2]
      refine e_icmp_ge (t := 41) dX11_symbol_9 (by decide) (fun h9 => ?_) (fun h9 => ?_)
      · skip
        exact absurd ((i_le (by omega) (by omega)).mp (show nI (S 0 1) ≤ nI e from h9)) (by omega)
      · skip
        refine e_iload_n dX11_symbol_12 rfl 2 rfl ?_
        refine e_aload_n dX11_symbol_13 rfl 0 rfl ?_
        refine e_aload_n dX11_symbol_14 rfl 0 rfl ?_
        refine e_getR dX11_symbol_15 lkX11_36 tt_127 rfl ?_
        refine e_iconst (v := 5) dX11_symbol_18 rfl ?_
        refine e_iload_n dX11_symbol_19 rfl 1 rfl ?_
        refine e_imul dX11_symbol_20 ?_
        refine e_iload_n dX11_symbol_21 rfl 3 rfl ?_
        refine e_iadd dX11_symbol_22 ?_
        rw [i_lin5]
        refine e_iald dX11_symbol_23 tt_136 (vp_in_nI (by omega) (by decide)) ?_
        rw [i_cl (by omega), j6 e (by omega)]
        refine e_aload_n dX11_symbol_24 rfl 0 rfl ?_
        refine e_getR dX11_symbol_25 lkX11_42 tt_127 rfl ?_
        refine e_iload_n dX11_symbol_28 rfl 3 rfl ?_
        refine e_iald dX11_symbol_29 tt_138 (vp_in_nI (by omega) (by decide)) ?_
        rw [i_cl (by omega), hne.1]
        refine e_callVi dX11_symbol_30 cvX11_128 rfl tt_127 rfl (c11_times hp (nib_lt (S 5 j) e) hwe.2.2.1 hF) (Nat.le_of_ble_eq_true rfl) (Nat.le_refl _) (Nat.le_refl _) rfl (Nat.le_of_ble_eq_true rfl) (fun r30 s30 m30 q30 => ?_)
        obtain ⟨q30, e30, g30⟩ := q30
        rw [e30, g30]
        clear e30 g30 s30 m30
        rw [q30, gmul_comm hp _ (nib_lt _ _) _ hwe.2.2.1]
        refine e_ixor dX11_symbol_33 ?_
        rw [nx_xor]
        refine e_istore_n [(0, .ref 127), (1, .int (nI j)), (2, .int (nI (a ^^^ gmul p (S 7 e) (nib (S 5 j) e)))), (3, .int (nI e))] dX11_symbol_34 rfl (by decide) rfl ?_
        refine e_iinc (nI (e + 1)) [(0, .ref 127), (1, .int (nI j)), (2, .int (nI (a ^^^ gmul p (S 7 e) (nib (S 5 j) e)))), (3, .int (nI (e + 1)))] dX11_symbol_35 3 rfl (nI_1 e) (by decide) rfl ?_
        refine e_goto (t := 4) dX11_symbol_38 (by decide) ?_
        exact ih (e + 1) _ (by omega) (Nat.xor_lt_two_pow (n := 4) ha (gmul_lt hp _ hwe.2.2.1 _ (nib_lt _ _))) hR2
  refine e_iconst (v := 0) dX11_symbol_0 rfl ?_
  refine e_istore_n [(0, .ref 127), (1, .int (nI j)), (2, .int 0)] dX11_symbol_1 rfl (by decide) rfl ?_
  refine e_iconst (v := 0) dX11_symbol_2 rfl ?_
  refine e_istore_n [(0, .ref 127), (1, .int (nI j)), (2, .int 0), (3, .int 0)] dX11_symbol_3 rfl (by decide) rfl ?_
  exact loop _ 0 0 (by omega) (by decide) rfl
