theorem ncan_a {w a b : Int32} (h4 : ¬ w = 4) (h : ncan w a b) : nN a := by
  unfold ncan at h
  by_cases e0 : w = 0
  · rw [if_pos e0] at h; exact h.1
  rw [if_neg e0] at h
  by_cases e1 : w = 1
  · rw [if_pos e1] at h; exact h.1
  rw [if_neg e1] at h
  by_cases e2 : w = 2
  · rw [if_pos e2] at h; exact h.1
  rw [if_neg e2] at h
  by_cases e3 : w = 3
  · rw [if_pos e3] at h; exact h.1
  rw [if_neg e3, if_neg h4] at h
  exact h.1
theorem ncan_b {w a b : Int32} (h3 : w = 0 ∨ w = 1 ∨ w = 2) : ncan w a b ↔ nN a ∧ nN b ∧ (w = 2 → ¬ b = 0) := by
  rcases h3 with rfl | rfl | rfl
  · exact ⟨fun h => ⟨h.1, h.2, fun q => absurd q (by decide)⟩, fun h => ⟨h.1, h.2.1⟩⟩
  · exact ⟨fun h => ⟨h.1, h.2, fun q => absurd q (by decide)⟩, fun h => ⟨h.1, h.2.1⟩⟩
  · exact ⟨fun h => ⟨h.1, h.2.1, fun _ => h.2.2⟩, fun h => ⟨h.1, h.2.1, h.2.2 rfl⟩⟩
theorem w_05 {w : Int32} (h : 0 ≤ w ∧ w ≤ 5) (h4 : ¬ w = 4) (h5 : ¬ w = 5) (h3 : ¬ w = 3) : w = 0 ∨ w = 1 ∨ w = 2 := by
  obtain ⟨k, hk, rfl⟩ := i_of (m := 5) (by decide) h.1 (show _ ≤ nI 5 from h.2)
  have e : k = 0 ∨ k = 1 ∨ k = 2 ∨ k = 3 ∨ k = 4 ∨ k = 5 := by omega
  rcases e with rfl | rfl | rfl | rfl | rfl | rfl
  · exact Or.inl rfl
  · exact Or.inr (Or.inl rfl)
  · exact Or.inr (Or.inr rfl)
  · exact absurd rfl h3
  · exact absurd rfl h4
  · exact absurd rfl h5

set_option maxRecDepth 100000 in
set_option maxHeartbeats 1000000 in
theorem c11_calc {p : Nat} (hp : gP p) {w a b : Int32} {σ : ex_S} {μ : ex_L}(hF : FR σ p) : Ci 5 yX11_calc cX11_calc 4 (some .int) [.ref 127, .int w, .int a, .int b] TT σ μ (fun z' σ' μ' => z' = ncalc p w a b ∧ σ' = σ ∧ μ' = μ) := by
  refine Cl_of (by decide +kernel) (Nat.le_of_ble_eq_true rfl) ?_
  show Ev RX11 cX11_calc 4 5 0 0 "calc" (some .int) ev_ext _ _ 0 0 0 [(0, .ref 127), (1, .int w), (2, .int a), (3, .int b)] [] TT σ μ
  refine e_iload_n dX11_calc_0 rfl 1 rfl ?_
  refine e_iconst (v := 0) dX11_calc_1 rfl ?_
  refine e_iconst (v := 5) dX11_calc_2 rfl ?_
  refine e_callSi dX11_calc_3 cvX11_99 rfl (c11_within w 0 5) (Nat.le_of_ble_eq_true rfl) (Nat.le_refl _) (Nat.le_refl _) rfl (Nat.le_of_ble_eq_true rfl) (fun r3 s3 m3 q3 => ?_)
  obtain ⟨q3, e3, g3⟩ := q3
  rw [e3, g3]
  clear e3 g3 s3 m3
  refine e_if_ne (t := 11) dX11_calc_6 (by decide) (fun h6 => ?_) (fun h6 => ?_)
  · skip
    rw [q3, bI_eq0] at h6
    have hw := Classical.not_not.mp h6
    refine e_iload_n dX11_calc_11 rfl 1 rfl ?_
    refine e_iconst (v := 4) dX11_calc_12 rfl ?_
    refine e_icmp_ne (t := 38) dX11_calc_13 (by decide) (fun h13 => ?_) (fun h13 => ?_)
    · skip
      refine e_iload_n dX11_calc_38 rfl 2 rfl ?_
      refine e_callSi dX11_calc_39 cvX11_125 rfl (c11_isNumber a) (Nat.le_of_ble_eq_true rfl) (Nat.le_refl _) (Nat.le_refl _) rfl (Nat.le_of_ble_eq_true rfl) (fun r39 s39 m39 q39 => ?_)
      obtain ⟨q39, e39, g39⟩ := q39
      rw [e39, g39]
      clear e39 g39 s39 m39
      refine e_if_ne (t := 48) dX11_calc_42 (by decide) (fun h42 => ?_) (fun h42 => ?_)
      · skip
        rw [q39, bI_eq0] at h42
        have hA := Classical.not_not.mp h42
        refine e_iload_n dX11_calc_48 rfl 1 rfl ?_
        refine e_iconst (v := 5) dX11_calc_49 rfl ?_
        refine e_icmp_ne (t := 69) dX11_calc_50 (by decide) (fun h50 => ?_) (fun h50 => ?_)
        · skip
          refine e_iload_n dX11_calc_69 rfl 1 rfl ?_
          refine e_iconst (v := 3) dX11_calc_70 rfl ?_
          refine e_icmp_ne (t := 120) dX11_calc_71 (by decide) (fun h71 => ?_) (fun h71 => ?_)
          · skip
            have hw3 := w_05 hw h13 h50 h71
            refine e_iload_n dX11_calc_120 rfl 3 rfl ?_
            refine e_callSi dX11_calc_121 cvX11_125 rfl (c11_isNumber b) (Nat.le_of_ble_eq_true rfl) (Nat.le_refl _) (Nat.le_refl _) rfl (Nat.le_of_ble_eq_true rfl) (fun r121 s121 m121 q121 => ?_)
            obtain ⟨q121, e121, g121⟩ := q121
            rw [e121, g121]
            clear e121 g121 s121 m121
            refine e_if_eq (t := 136) dX11_calc_124 (by decide) (fun h124 => ?_) (fun h124 => ?_)
            · skip
              rw [q121, bI_eq0] at h124
              refine e_bipush (v := (-2)) dX11_calc_136 rfl ?_
              refine e_reti dX11_calc_138 ev_nwi (Nat.le_refl _) (Nat.le_refl _) ?_
              exact ⟨(ncalc_2 hw (fun q => h124 ((ncan_b hw3).mp q).2.1)).symm, rfl, rfl⟩
            · skip
              rw [q121, bI_eq0] at h124
              have hB := Classical.not_not.mp h124
              refine e_iload_n dX11_calc_127 rfl 1 rfl ?_
              refine e_iconst (v := 2) dX11_calc_128 rfl ?_
              refine e_icmp_ne (t := 139) dX11_calc_129 (by decide) (fun h129 => ?_) (fun h129 => ?_)
              · skip
                have hbz : w = 2 → ¬ b = 0 := fun q => absurd q h129
                refine e_iload_n dX11_calc_139 rfl 1 rfl ?_
                refine e_if_ne (t := 149) dX11_calc_140 (by decide) (fun h140 => ?_) (fun h140 => ?_)
                · skip
                  refine e_iload_n dX11_calc_149 rfl 1 rfl ?_
                  refine e_iconst (v := 1) dX11_calc_150 rfl ?_
                  refine e_icmp_ne (t := 163) dX11_calc_151 (by decide) (fun h151 => ?_) (fun h151 => ?_)
                  · skip
                    have hw2 : w = 2 := by
                      rcases hw3 with q | q | q
                      · exact absurd q h140
                      · exact absurd q h151
                      · exact q
                    subst hw2
                    obtain ⟨i, hi, rfl⟩ := i_of (x := a) (m := 15) (by omega) hA.1 (show _ ≤ nI (15) from hA.2)
                    obtain ⟨j, hj, rfl⟩ := i_of (x := b) (m := 15) (by omega) hB.1 (show _ ≤ nI (15) from hB.2)
                    have hb0 : ¬ nI j = 0 := hbz rfl
                    refine e_aload_n dX11_calc_163 rfl 0 rfl ?_
                    refine e_iload_n dX11_calc_164 rfl 2 rfl ?_
                    refine e_iload_n dX11_calc_165 rfl 3 rfl ?_
                    refine e_callVi dX11_calc_166 cvX11_131 rfl tt_127 rfl (c11_by hp (a := i) (b := j) (by omega) (by omega) (fun q => hb0 (by rw [q]; rfl)) hF) (Nat.le_of_ble_eq_true rfl) (Nat.le_refl _) (Nat.le_refl _) rfl (Nat.le_of_ble_eq_true rfl) (fun r166 s166 m166 q166 => ?_)
                    obtain ⟨q166, e166, g166⟩ := q166
                    rw [e166, g166]
                    clear e166 g166 s166 m166
                    refine e_reti dX11_calc_169 ev_nwi (Nat.le_refl _) (Nat.le_refl _) ?_
                    refine ⟨?_, rfl, rfl⟩
                    rw [ncalc_3 hw (show ncan 2 (nI i) (nI j) from ⟨hA, hB, hb0⟩)]
                    rw [if_neg (by decide), if_neg (by decide), if_pos rfl]
                    rw [i_cl (by omega), i_cl (by omega)]
                    exact q166
                  · skip
                    subst h151
                    obtain ⟨i, hi, rfl⟩ := i_of (x := a) (m := 15) (by omega) hA.1 (show _ ≤ nI (15) from hA.2)
                    obtain ⟨j, hj, rfl⟩ := i_of (x := b) (m := 15) (by omega) hB.1 (show _ ≤ nI (15) from hB.2)
                    refine e_aload_n dX11_calc_154 rfl 0 rfl ?_
                    refine e_iload_n dX11_calc_155 rfl 2 rfl ?_
                    refine e_iload_n dX11_calc_156 rfl 3 rfl ?_
                    refine e_callVi dX11_calc_157 cvX11_128 rfl tt_127 rfl (c11_times hp (a := i) (b := j) (by omega) (by omega) hF) (Nat.le_of_ble_eq_true rfl) (Nat.le_refl _) (Nat.le_refl _) rfl (Nat.le_of_ble_eq_true rfl) (fun r157 s157 m157 q157 => ?_)
                    obtain ⟨q157, e157, g157⟩ := q157
                    rw [e157, g157]
                    clear e157 g157 s157 m157
                    refine e_goto (t := 169) dX11_calc_160 (by decide) ?_
                    refine e_reti dX11_calc_169 ev_nwi (Nat.le_refl _) (Nat.le_refl _) ?_
                    refine ⟨?_, rfl, rfl⟩
                    rw [ncalc_3 hw (show ncan 1 (nI i) (nI j) from ⟨hA, hB⟩)]
                    rw [if_neg (by decide), if_pos rfl]
                    rw [i_cl (by omega), i_cl (by omega)]
                    exact q157
                · skip
                  subst h140
                  refine e_iload_n dX11_calc_143 rfl 2 rfl ?_
                  refine e_iload_n dX11_calc_144 rfl 3 rfl ?_
                  refine e_ixor dX11_calc_145 ?_
                  refine e_goto (t := 169) dX11_calc_146 (by decide) ?_
                  refine e_reti dX11_calc_169 ev_nwi (Nat.le_refl _) (Nat.le_refl _) ?_
                  refine ⟨?_, rfl, rfl⟩
                  rw [ncalc_3 hw (show ncan 0 a b from ⟨hA, hB⟩)]
                  rw [if_pos rfl]
                  
              · skip
                refine e_iload_n dX11_calc_132 rfl 3 rfl ?_
                refine e_if_ne (t := 139) dX11_calc_133 (by decide) (fun h133 => ?_) (fun h133 => ?_)
                · skip
                  have hbz : w = 2 → ¬ b = 0 := fun _ => h133
                  refine e_iload_n dX11_calc_139 rfl 1 rfl ?_
                  refine e_if_ne (t := 149) dX11_calc_140 (by decide) (fun h140 => ?_) (fun h140 => ?_)
                  · skip
                    refine e_iload_n dX11_calc_149 rfl 1 rfl ?_
                    refine e_iconst (v := 1) dX11_calc_150 rfl ?_
                    refine e_icmp_ne (t := 163) dX11_calc_151 (by decide) (fun h151 => ?_) (fun h151 => ?_)
                    · skip
                      have hw2 : w = 2 := by
                        rcases hw3 with q | q | q
                        · exact absurd q h140
                        · exact absurd q h151
                        · exact q
                      subst hw2
                      obtain ⟨i, hi, rfl⟩ := i_of (x := a) (m := 15) (by omega) hA.1 (show _ ≤ nI (15) from hA.2)
                      obtain ⟨j, hj, rfl⟩ := i_of (x := b) (m := 15) (by omega) hB.1 (show _ ≤ nI (15) from hB.2)
                      have hb0 : ¬ nI j = 0 := hbz rfl
                      refine e_aload_n dX11_calc_163 rfl 0 rfl ?_
                      refine e_iload_n dX11_calc_164 rfl 2 rfl ?_
                      refine e_iload_n dX11_calc_165 rfl 3 rfl ?_
                      refine e_callVi dX11_calc_166 cvX11_131 rfl tt_127 rfl (c11_by hp (a := i) (b := j) (by omega) (by omega) (fun q => hb0 (by rw [q]; rfl)) hF) (Nat.le_of_ble_eq_true rfl) (Nat.le_refl _) (Nat.le_refl _) rfl (Nat.le_of_ble_eq_true rfl) (fun r166 s166 m166 q166 => ?_)
                      obtain ⟨q166, e166, g166⟩ := q166
                      rw [e166, g166]
                      clear e166 g166 s166 m166
                      refine e_reti dX11_calc_169 ev_nwi (Nat.le_refl _) (Nat.le_refl _) ?_
                      refine ⟨?_, rfl, rfl⟩
                      rw [ncalc_3 hw (show ncan 2 (nI i) (nI j) from ⟨hA, hB, hb0⟩)]
                      rw [if_neg (by decide), if_neg (by decide), if_pos rfl]
                      rw [i_cl (by omega), i_cl (by omega)]
                      exact q166
                    · skip
                      subst h151
                      obtain ⟨i, hi, rfl⟩ := i_of (x := a) (m := 15) (by omega) hA.1 (show _ ≤ nI (15) from hA.2)
                      obtain ⟨j, hj, rfl⟩ := i_of (x := b) (m := 15) (by omega) hB.1 (show _ ≤ nI (15) from hB.2)
                      refine e_aload_n dX11_calc_154 rfl 0 rfl ?_
                      refine e_iload_n dX11_calc_155 rfl 2 rfl ?_
                      refine e_iload_n dX11_calc_156 rfl 3 rfl ?_
                      refine e_callVi dX11_calc_157 cvX11_128 rfl tt_127 rfl (c11_times hp (a := i) (b := j) (by omega) (by omega) hF) (Nat.le_of_ble_eq_true rfl) (Nat.le_refl _) (Nat.le_refl _) rfl (Nat.le_of_ble_eq_true rfl) (fun r157 s157 m157 q157 => ?_)
                      obtain ⟨q157, e157, g157⟩ := q157
                      rw [e157, g157]
                      clear e157 g157 s157 m157
                      refine e_goto (t := 169) dX11_calc_160 (by decide) ?_
                      refine e_reti dX11_calc_169 ev_nwi (Nat.le_refl _) (Nat.le_refl _) ?_
                      refine ⟨?_, rfl, rfl⟩
                      rw [ncalc_3 hw (show ncan 1 (nI i) (nI j) from ⟨hA, hB⟩)]
                      rw [if_neg (by decide), if_pos rfl]
                      rw [i_cl (by omega), i_cl (by omega)]
                      exact q157
                  · skip
                    subst h140
                    refine e_iload_n dX11_calc_143 rfl 2 rfl ?_
                    refine e_iload_n dX11_calc_144 rfl 3 rfl ?_
                    refine e_ixor dX11_calc_145 ?_
                    refine e_goto (t := 169) dX11_calc_146 (by decide) ?_
                    refine e_reti dX11_calc_169 ev_nwi (Nat.le_refl _) (Nat.le_refl _) ?_
                    refine ⟨?_, rfl, rfl⟩
                    rw [ncalc_3 hw (show ncan 0 a b from ⟨hA, hB⟩)]
                    rw [if_pos rfl]
                    
                · skip
                  skip
                  refine e_bipush (v := (-2)) dX11_calc_136 rfl ?_
                  refine e_reti dX11_calc_138 ev_nwi (Nat.le_refl _) (Nat.le_refl _) ?_
                  exact ⟨(ncalc_2 hw (fun q => ((ncan_b hw3).mp q).2.2 h129 h133)).symm, rfl, rfl⟩
          · skip
            subst h71
            refine e_iload_n dX11_calc_74 rfl 3 rfl ?_
            refine e_iconst (v := 0) dX11_calc_75 rfl ?_
            refine e_bipush (v := 99) dX11_calc_76 rfl ?_
            refine e_callSi dX11_calc_78 cvX11_99 rfl (c11_within b 0 99) (Nat.le_of_ble_eq_true rfl) (Nat.le_refl _) (Nat.le_refl _) rfl (Nat.le_of_ble_eq_true rfl) (fun r78 s78 m78 q78 => ?_)
            obtain ⟨q78, e78, g78⟩ := q78
            rw [e78, g78]
            clear e78 g78 s78 m78
            refine e_if_ne (t := 87) dX11_calc_81 (by decide) (fun h81 => ?_) (fun h81 => ?_)
            · skip
              rw [q78, bI_eq0] at h81
              have hP3 := Classical.not_not.mp h81
              obtain ⟨j, hj, rfl⟩ := i_of (x := b) (m := 99) (by omega) hP3.1 (show _ ≤ nI (99) from hP3.2)
              refine e_iload_n dX11_calc_87 rfl 3 rfl ?_
              refine e_if_ne (t := 95) dX11_calc_88 (by decide) (fun h88 => ?_) (fun h88 => ?_)
              · skip
                refine e_iload_n dX11_calc_95 rfl 2 rfl ?_
                refine e_if_ne (t := 103) dX11_calc_96 (by decide) (fun h96 => ?_) (fun h96 => ?_)
                · skip
                  skip
                  obtain ⟨i, hi, rfl⟩ := i_of (x := a) (m := 15) (by omega) hA.1 (show _ ≤ nI (15) from hA.2)
                  have hi0 : i ≠ 0 := fun q => h96 (by rw [q]; rfl)
                  have hgl := (glog_lt hp i (by omega)).1
                  refine e_aload_n dX11_calc_103 rfl 0 rfl ?_
                  refine e_getR dX11_calc_104 lkX11_15 tt_127 rfl ?_
                  refine e_aload_n dX11_calc_107 rfl 0 rfl ?_
                  refine e_getR dX11_calc_108 lkX11_18 tt_127 rfl ?_
                  refine e_iload_n dX11_calc_111 rfl 2 rfl ?_
                  
                  refine e_iald dX11_calc_112 tt_130 (vp_in_nI (by omega) (by decide)) ?_
                  refine e_iload_n dX11_calc_113 rfl 3 rfl ?_
                  rw [i_cl (by omega), hF.2.2.2.2 i (by omega) hi0]
                  refine e_imul dX11_calc_114 ?_
                  rw [i_mul]
                  refine e_bipush (v := 15) dX11_calc_115 rfl ?_
                  refine e_irem dX11_calc_117 (by decide) ?_
                  rw [show (15 : Int32) = nI 15 from rfl, i_rem (show glog p i * j < 2 ^ 31 by have := Nat.mul_le_mul (show glog p i ≤ 14 by omega) (show j ≤ 99 by omega); omega) (by decide) (by decide)]
                  have hml := Nat.mod_lt (glog p i * j) (show 0 < 15 by decide)
                  refine e_iald dX11_calc_118 tt_129 (vp_in_nI (by omega) (by decide)) ?_
                  try rw [i_cl (by omega), hF.2.2.2.1 _ (by omega)]
                  refine e_reti dX11_calc_119 ev_nwi (Nat.le_refl _) (Nat.le_refl _) ?_
                  refine ⟨?_, rfl, rfl⟩
                  rw [ncalc_3 hw (show ncan 3 (nI i) (nI j) from ⟨hA, hP3⟩)]
                  rw [if_neg (by decide), if_neg (by decide), if_neg (by decide), if_pos rfl]
                  rw [i_cl (by omega), i_cl (by omega), gpow_log hp (by omega) hi0]
                · skip
                  skip
                  refine e_iconst (v := 0) dX11_calc_99 rfl ?_
                  refine e_goto (t := 119) dX11_calc_100 (by decide) ?_
                  try rw [i_cl (by omega), hF.2.2.2.1 _ (by omega)]
                  refine e_reti dX11_calc_119 ev_nwi (Nat.le_refl _) (Nat.le_refl _) ?_
                  refine ⟨?_, rfl, rfl⟩
                  rw [ncalc_3 hw (show ncan 3 a (nI j) from ⟨hA, hP3⟩)]
                  rw [if_neg (by decide), if_neg (by decide), if_neg (by decide), if_pos rfl]
                  rw [show a = nI 0 from h96, i_cl (by decide), i_cl (by omega), gpow_of0 hp j (fun q => h88 (by rw [q]; rfl))]
                  rfl
              · skip
                skip
                refine e_iconst (v := 1) dX11_calc_91 rfl ?_
                refine e_goto (t := 119) dX11_calc_92 (by decide) ?_
                try rw [i_cl (by omega), hF.2.2.2.1 _ (by omega)]
                refine e_reti dX11_calc_119 ev_nwi (Nat.le_refl _) (Nat.le_refl _) ?_
                refine ⟨?_, rfl, rfl⟩
                rw [ncalc_3 hw (show ncan 3 a (nI j) from ⟨hA, hP3⟩)]
                rw [if_neg (by decide), if_neg (by decide), if_neg (by decide), if_pos rfl]
                rw [show nI j = nI 0 from h88, i_cl (by decide)]
                rfl
            · skip
              rw [q78] at h81
              have hP3 := bI_eq0.mp h81
              refine e_bipush (v := (-2)) dX11_calc_84 rfl ?_
              refine e_reti dX11_calc_86 ev_nwi (Nat.le_refl _) (Nat.le_refl _) ?_
              exact ⟨(ncalc_2 hw (fun q => hP3 (show _ ∧ 0 ≤ b ∧ b ≤ 99 from q).2)).symm, rfl, rfl⟩
        · skip
          subst h50
          refine e_iload_n dX11_calc_53 rfl 2 rfl ?_
          refine e_if_ne (t := 62) dX11_calc_54 (by decide) (fun h54 => ?_) (fun h54 => ?_)
          · skip
            skip
            obtain ⟨i, hi, rfl⟩ := i_of (x := a) (m := 15) (by omega) hA.1 (show _ ≤ nI (15) from hA.2)
            refine e_aload_n dX11_calc_62 rfl 0 rfl ?_
            refine e_getR dX11_calc_63 lkX11_18 tt_127 rfl ?_
            refine e_iload_n dX11_calc_66 rfl 2 rfl ?_
            have hi0 : i ≠ 0 := fun q => h54 (by rw [q]; rfl)
            refine e_iald dX11_calc_67 tt_130 (vp_in_nI (by omega) (by decide)) ?_
            refine e_reti dX11_calc_68 ev_nwi (Nat.le_refl _) (Nat.le_refl _) ?_
            refine ⟨?_, rfl, rfl⟩
            rw [ncalc_3 hw (show ncan 5 (nI i) b from ⟨hA, h54⟩)]
            rw [if_neg (by decide), if_neg (by decide), if_neg (by decide), if_neg (by decide), if_neg (by decide)]
            rw [i_cl (by omega)]
            exact hF.2.2.2.2 i (by omega) hi0
          · skip
            refine e_bipush (v := (-2)) dX11_calc_57 rfl ?_
            refine e_goto (t := 68) dX11_calc_59 (by decide) ?_
            refine e_reti dX11_calc_68 ev_nwi (Nat.le_refl _) (Nat.le_refl _) ?_
            exact ⟨(ncalc_2 hw (fun q => (show _ ∧ ¬ a = 0 from q).2 h54)).symm, rfl, rfl⟩
      · skip
        rw [q39] at h42
        have hA := bI_eq0.mp h42
        refine e_bipush (v := (-2)) dX11_calc_45 rfl ?_
        refine e_reti dX11_calc_47 ev_nwi (Nat.le_refl _) (Nat.le_refl _) ?_
        exact ⟨(ncalc_2 hw (fun q => hA (ncan_a h13 q))).symm, rfl, rfl⟩
    · skip
      subst h13
      refine e_iload_n dX11_calc_16 rfl 2 rfl ?_
      refine e_iconst (v := 0) dX11_calc_17 rfl ?_
      refine e_bipush (v := 14) dX11_calc_18 rfl ?_
      refine e_callSi dX11_calc_20 cvX11_99 rfl (c11_within a 0 14) (Nat.le_of_ble_eq_true rfl) (Nat.le_refl _) (Nat.le_refl _) rfl (Nat.le_of_ble_eq_true rfl) (fun r20 s20 m20 q20 => ?_)
      obtain ⟨q20, e20, g20⟩ := q20
      rw [e20, g20]
      clear e20 g20 s20 m20
      refine e_if_eq (t := 35) dX11_calc_23 (by decide) (fun h23 => ?_) (fun h23 => ?_)
      · skip
        rw [q20, bI_eq0] at h23
        refine e_bipush (v := (-2)) dX11_calc_35 rfl ?_
        refine e_reti dX11_calc_37 ev_nwi (Nat.le_refl _) (Nat.le_refl _) ?_
        exact ⟨(ncalc_2 hw (fun q => h23 q)).symm, rfl, rfl⟩
      · skip
        rw [q20, bI_eq0] at h23
        have hP4 := Classical.not_not.mp h23
        obtain ⟨i, hi, rfl⟩ := i_of (x := a) (m := 14) (by omega) hP4.1 (show _ ≤ nI (14) from hP4.2)
        refine e_aload_n dX11_calc_26 rfl 0 rfl ?_
        refine e_getR dX11_calc_27 lkX11_15 tt_127 rfl ?_
        refine e_iload_n dX11_calc_30 rfl 2 rfl ?_
        
        refine e_iald dX11_calc_31 tt_129 (vp_in_nI (by omega) (by decide)) ?_
        refine e_goto (t := 37) dX11_calc_32 (by decide) ?_
        refine e_reti dX11_calc_37 ev_nwi (Nat.le_refl _) (Nat.le_refl _) ?_
        refine ⟨?_, rfl, rfl⟩
        rw [ncalc_3 hw (show ncan 4 (nI i) b from hP4)]
        rw [if_neg (by decide), if_neg (by decide), if_neg (by decide), if_neg (by decide), if_pos rfl]
        rw [i_cl (by omega)]
        exact hF.2.2.2.1 i (by omega)
  · skip
    rw [q3] at h6
    have hw := bI_eq0.mp h6
    refine e_iconst (v := (-1)) dX11_calc_9 rfl ?_
    refine e_reti dX11_calc_10 ev_nwi (Nat.le_refl _) (Nat.le_refl _) ?_
    exact ⟨(ncalc_1 hw).symm, rfl, rfl⟩

theorem i_1631 {x : Int32} (h1 : 16 ≤ x) (h2 : x ≤ 31) : ∃ k, 16 ≤ k ∧ k < 32 ∧ x = nI k := by
  have h3 : (0 : Int32) ≤ x := by
    rw [Int32.le_iff_toInt_le] at *
    have : (16 : Int32).toInt = 16 := by decide
    have : (0 : Int32).toInt = 0 := by decide
    omega
  obtain ⟨k, hk, rfl⟩ := i_of (m := 31) (by decide) h3 (show _ ≤ nI 31 from h2)
  have := (i_le (a := 16) (b := k) (by decide) (by omega)).mp h1
  exact ⟨k, this, by omega, rfl⟩
theorem gfield_P : ∀ k, k < 32 → 16 ≤ k → gfield k = true → (k = 19 ∨ k = 25 ∨ k = 31) := by decide +kernel
noncomputable def nfieldOk (x : Int32) : Prop := (16 ≤ x ∧ x ≤ 31) ∧ gfield x.toNatClampNeg = true
/-- what field answers; the FIELD behind it -/
noncomputable def nfield (n : Nat) (x : Int32) : Int32 := @ite _ (nfieldOk x) (Classical.propDecidable _) (if n = 0 then nI (ggen x.toNatClampNeg) else -3) (-2)
noncomputable def nfieldP (n p : Nat) (x : Int32) : Nat := @ite _ (nfieldOk x ∧ n = 0) (Classical.propDecidable _) x.toNatClampNeg p
theorem nfield_no {n : Nat} {x : Int32} (h : ¬ nfieldOk x) : nfield n x = -2 := if_neg h
theorem nfield_st {n : Nat} {x : Int32} (h : nfieldOk x) (h2 : n ≠ 0) : nfield n x = -3 := (if_pos h).trans (if_neg h2)
theorem nfield_yes {n k : Nat} (h : nfieldOk (nI k)) (hk : k < 32) (h2 : n = 0) : nfield n (nI k) = nI (ggen k) := by
  refine (if_pos h).trans ((if_pos h2).trans ?_)
  rw [i_cl (by omega)]
theorem nfieldP_no {n p : Nat} {x : Int32} (h : ¬ (nfieldOk x ∧ n = 0)) : nfieldP n p x = p := if_neg h
theorem nfieldP_yes {n p k : Nat} (h : nfieldOk (nI k)) (hk : k < 32) (h2 : n = 0) : nfieldP n p (nI k) = k := by
  refine (if_pos ⟨h, h2⟩).trans ?_
  rw [i_cl (by omega)]
theorem nfieldOk_i {k : Nat} (h1 : 16 ≤ k) (h2 : k < 32) : nfieldOk (nI k) ↔ gfield k = true := by
  unfold nfieldOk
  rw [i_cl (by omega)]
  exact ⟨fun h => h.2, fun h => ⟨⟨(i_le (a := 16) (by decide) (by omega)).mpr h1, (i_le (b := 31) (by omega) (by decide)).mpr (by omega)⟩, h⟩⟩

set_option maxRecDepth 100000 in
theorem c10_field {p : Nat} (hp : gP p) {S : ns_T} (hV : VS S) {x : Int32} {σ : ex_S} {μ : ex_L}(hF : FC σ p) (hC : NC σ 33 S) : Ci 6 yX10_field cX10_field 2 (some .int) [.ref 0, .int x] TT σ μ (fun z' σ' μ' => z' = nfield (S 0 0) x ∧ FC σ' (nfieldP (S 0 0) p x) ∧ gP (nfieldP (S 0 0) p x) ∧ (∀ i, i ≠ 1 → i ≠ 2 → σ' i = σ i) ∧ μ' = μ) := by
  refine Cl_of (by decide +kernel) (Nat.le_of_ble_eq_true rfl) ?_
  show Ev RX10 cX10_field 2 6 0 0 "field" (some .int) ev_ext _ _ 0 0 0 [(0, .ref 0), (1, .int x)] [] TT σ μ
  have hn := hV.1
  refine e_iload_n dX10_field_0 rfl 1 rfl ?_
  refine e_bipush (v := 16) dX10_field_1 rfl ?_
  refine e_icmp_lt (t := 19) dX10_field_3 (by decide) (fun h3 => ?_) (fun h3 => ?_)
  · skip
    skip
    refine e_bipush (v := (-2)) dX10_field_19 rfl ?_
    refine e_reti dX10_field_21 ev_nwi (Nat.le_refl _) (Nat.le_refl _) ?_
    have hno : ¬ nfieldOk x := fun q => by
      have a1 := Int32.lt_iff_toInt_lt.mp h3
      have a2 := Int32.le_iff_toInt_le.mp q.1.1
      omega
    exact ⟨(nfield_no hno).symm, by rw [nfieldP_no (fun q => hno q.1)]; exact hF, by rw [nfieldP_no (fun q => hno q.1)]; exact hp, fun _ _ _ => rfl, rfl⟩
  · skip
    refine e_iload_n dX10_field_6 rfl 1 rfl ?_
    refine e_bipush (v := 31) dX10_field_7 rfl ?_
    refine e_icmp_gt (t := 19) dX10_field_9 (by decide) (fun h9 => ?_) (fun h9 => ?_)
    · skip
      skip
      refine e_bipush (v := (-2)) dX10_field_19 rfl ?_
      refine e_reti dX10_field_21 ev_nwi (Nat.le_refl _) (Nat.le_refl _) ?_
      have hno : ¬ nfieldOk x := fun q => by
        have a1 := Int32.lt_iff_toInt_lt.mp h9
        have a2 := Int32.le_iff_toInt_le.mp q.1.2
        omega
      exact ⟨(nfield_no hno).symm, by rw [nfieldP_no (fun q => hno q.1)]; exact hF, by rw [nfieldP_no (fun q => hno q.1)]; exact hp, fun _ _ _ => rfl, rfl⟩
    · skip
      obtain ⟨k, hk1, hk2, hxk⟩ := i_1631 (fa_of_nlt h3) (fa_of_nlt h9)
      subst hxk
      refine e_iload_n dX10_field_12 rfl 1 rfl ?_
      refine e_callSi dX10_field_13 cvX10_85 rfl (c4_isField (p := k) ⟨hk1, hk2⟩) (Nat.le_of_ble_eq_true rfl) (Nat.le_refl _) (Nat.le_refl _) rfl (Nat.le_of_ble_eq_true rfl) (fun r13 s13 m13 q13 => ?_)
      obtain ⟨q13, e13, g13⟩ := q13
      rw [e13, g13]
      clear e13 g13 s13 m13
      refine e_if_ne (t := 22) dX10_field_16 (by decide) (fun h16 => ?_) (fun h16 => ?_)
      · skip
        rw [q13, bI_eq0] at h16
        have h16 := Classical.not_not.mp h16
        have hok := (nfieldOk_i hk1 hk2).mpr h16
        have hgk : gP k := gfield_P k hk2 hk1 h16
        refine e_aload_n dX10_field_22 rfl 0 rfl ?_
        refine e_getR dX10_field_23 lkX10_46 tt_0 rfl ?_
        refine e_getR dX10_field_26 lkX10_89 (store_0 store_32_) rfl ?_
        refine e_getI dX10_field_29 lkX10_92 (nodes_0 (store_n store_32_)) rfl ?_
        rw [hC.1]
        refine e_if_le (t := 38) dX10_field_32 (by decide) (fun h32 => ?_) (fun h32 => ?_)
        · skip
          have hn0 : S 0 0 = 0 := by
            have := (i_le (by omega) (by decide)).mp (show nI (S 0 0) ≤ nI 0 from h32)
            omega
          refine e_aload_n dX10_field_38 rfl 0 rfl ?_
          refine e_getR dX10_field_39 lkX10_12 tt_0 rfl ?_
          refine e_iload_n dX10_field_42 rfl 1 rfl ?_
          refine e_callVv dX10_field_43 cvX10_96 rfl tt_1 rfl (c4_choose (p := k) hgk numbers_TT) (Nat.le_of_ble_eq_true rfl) (Nat.le_refl _) (Nat.le_refl _) rfl (Nat.le_of_ble_eq_true rfl) (fun s43 m43 q43 => ?_)
          obtain ⟨a1, a2, a3⟩ := q43
          rw [a3]
          refine e_aload_n dX10_field_46 rfl 0 rfl ?_
          refine e_getR dX10_field_47 lkX10_12 tt_0 rfl ?_
          refine e_getI dX10_field_50 lkX10_100 tt_1 rfl ?_
          refine e_reti dX10_field_53 ev_nwi (Nat.le_refl _) (Nat.le_refl _) ?_
          exact ⟨by rw [nfield_yes hok hk2 hn0]; exact a1.2.1, by rw [nfieldP_yes hok hk2 hn0]; exact a1, by rw [nfieldP_yes hok hk2 hn0]; exact hgk, a2, rfl⟩
        · skip
          have hn0 : S 0 0 ≠ 0 := fun q => h32 (by rw [q]; decide)
          refine e_bipush (v := (-3)) dX10_field_35 rfl ?_
          refine e_reti dX10_field_37 ev_nwi (Nat.le_refl _) (Nat.le_refl _) ?_
          exact ⟨(nfield_st hok hn0).symm, by rw [nfieldP_no (fun q => hn0 q.2)]; exact hF, by rw [nfieldP_no (fun q => hn0 q.2)]; exact hp, fun _ _ _ => rfl, rfl⟩
      · skip
        rw [q13] at h16
        have h16 := bI_eq0.mp h16
        refine e_bipush (v := (-2)) dX10_field_19 rfl ?_
        refine e_reti dX10_field_21 ev_nwi (Nat.le_refl _) (Nat.le_refl _) ?_
        have hno : ¬ nfieldOk (nI k) := fun q => h16 ((nfieldOk_i hk1 hk2).mp q)
        exact ⟨(nfield_no hno).symm, by rw [nfieldP_no (fun q => hno q.1)]; exact hF, by rw [nfieldP_no (fun q => hno q.1)]; exact hp, fun _ _ _ => rfl, rfl⟩

set_option maxRecDepth 100000 in
theorem c11_field {p : Nat} (hp : gP p) {S : ns_T} (hV : VS S) {x : Int32} {σ : ex_S} {μ : ex_L}(hF : FR σ p) (hR : NR σ S) : Ci 7 yX11_field cX11_field 2 (some .int) [.ref 127, .int x] TT σ μ (fun z' σ' μ' => z' = nfield (S 0 0) x ∧ FR σ' (nfieldP (S 0 0) p x) ∧ (∀ i, i ≠ 127 → i ≠ 128 → i ≠ 129 → i ≠ 130 → σ' i = σ i) ∧ (∀ k, 2 ≤ k → σ' 127 k = σ 127 k) ∧ μ' = μ) := by
  refine Cl_of (by decide +kernel) (Nat.le_of_ble_eq_true rfl) ?_
  show Ev RX11 cX11_field 2 7 0 0 "field" (some .int) ev_ext _ _ 0 0 0 [(0, .ref 127), (1, .int x)] [] TT σ μ
  have hn := hV.1
  refine e_iload_n dX11_field_0 rfl 1 rfl ?_
  refine e_bipush (v := 16) dX11_field_1 rfl ?_
  refine e_bipush (v := 31) dX11_field_3 rfl ?_
  refine e_callSi dX11_field_5 cvX11_99 rfl (c11_within x 16 31) (Nat.le_of_ble_eq_true rfl) (Nat.le_refl _) (Nat.le_refl _) rfl (Nat.le_of_ble_eq_true rfl) (fun r5 s5 m5 q5 => ?_)
  obtain ⟨q5, e5, g5⟩ := q5
  rw [e5, g5]
  clear e5 g5 s5 m5
  refine e_if_eq (t := 18) dX11_field_8 (by decide) (fun h8 => ?_) (fun h8 => ?_)
  · skip
    rw [q5, bI_eq0] at h8
    refine e_bipush (v := (-2)) dX11_field_18 rfl ?_
    refine e_reti dX11_field_20 ev_nwi (Nat.le_refl _) (Nat.le_refl _) ?_
    have hno : ¬ nfieldOk x := fun q => h8 q.1
    exact ⟨(nfield_no hno).symm, by rw [nfieldP_no (fun q => hno q.1)]; exact hF, fun _ _ _ _ _ => rfl, fun _ _ => rfl, rfl⟩
  · skip
    rw [q5, bI_eq0] at h8
    have hP := Classical.not_not.mp h8
    obtain ⟨k, hk1, hk2, hxk⟩ := i_1631 hP.1 hP.2
    subst hxk
    refine e_iload_n dX11_field_11 rfl 1 rfl ?_
    refine e_callSi dX11_field_12 cvX11_121 rfl (c11_isField (p := k) ⟨hk1, hk2⟩) (Nat.le_of_ble_eq_true rfl) (Nat.le_refl _) (Nat.le_refl _) rfl (Nat.le_of_ble_eq_true rfl) (fun r12 s12 m12 q12 => ?_)
    obtain ⟨q12, e12, g12⟩ := q12
    rw [e12, g12]
    clear e12 g12 s12 m12
    refine e_if_ne (t := 21) dX11_field_15 (by decide) (fun h15 => ?_) (fun h15 => ?_)
    · skip
      rw [q12, bI_eq0] at h15
      have h15 := Classical.not_not.mp h15
      have hok := (nfieldOk_i hk1 hk2).mpr h15
      have hgk : gP k := gfield_P k hk2 hk1 h15
      refine e_aload_n dX11_field_21 rfl 0 rfl ?_
      refine e_getI dX11_field_22 lkX11_95 tt_127 rfl ?_
      rw [hR.1]
      refine e_if_le (t := 31) dX11_field_25 (by decide) (fun h25 => ?_) (fun h25 => ?_)
      · skip
        have hn0 : S 0 0 = 0 := by
          have := (i_le (by omega) (by decide)).mp (show nI (S 0 0) ≤ nI 0 from h25)
          omega
        refine e_aload_n dX11_field_31 rfl 0 rfl ?_
        refine e_iload_n dX11_field_32 rfl 1 rfl ?_
        refine e_callVv dX11_field_33 cvX11_91 rfl tt_127 rfl (c11_makes (p := k) hgk) (Nat.le_of_ble_eq_true rfl) (Nat.le_refl _) (Nat.le_refl _) rfl (Nat.le_of_ble_eq_true rfl) (fun s33 m33 q33 => ?_)
        obtain ⟨a1, a2, a3, a4⟩ := q33
        rw [a4]
        refine e_aload_n dX11_field_36 rfl 0 rfl ?_
        refine e_getI dX11_field_37 lkX11_114 tt_127 rfl ?_
        refine e_reti dX11_field_40 ev_nwi (Nat.le_refl _) (Nat.le_refl _) ?_
        exact ⟨by rw [nfield_yes hok hk2 hn0]; exact a1.2.1, by rw [nfieldP_yes hok hk2 hn0]; exact a1, a2, a3, rfl⟩
      · skip
        have hn0 : S 0 0 ≠ 0 := fun q => h25 (by rw [q]; decide)
        refine e_bipush (v := (-3)) dX11_field_28 rfl ?_
        refine e_reti dX11_field_30 ev_nwi (Nat.le_refl _) (Nat.le_refl _) ?_
        exact ⟨(nfield_st hok hn0).symm, by rw [nfieldP_no (fun q => hn0 q.2)]; exact hF, fun _ _ _ _ _ => rfl, fun _ _ => rfl, rfl⟩
    · skip
      rw [q12] at h15
      have h15 := bI_eq0.mp h15
      refine e_bipush (v := (-2)) dX11_field_18 rfl ?_
      refine e_reti dX11_field_20 ev_nwi (Nat.le_refl _) (Nat.le_refl _) ?_
      have hno : ¬ nfieldOk (nI k) := fun q => h15 ((nfieldOk_i hk1 hk2).mp q)
      exact ⟨(nfield_no hno).symm, by rw [nfieldP_no (fun q => hno q.1)]; exact hF, fun _ _ _ _ _ => rfl, fun _ _ => rfl, rfl⟩
