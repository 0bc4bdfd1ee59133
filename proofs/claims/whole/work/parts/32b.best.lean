theorem cntP_le (P : Nat → Prop) : ∀ n, cntP P n ≤ n
  | 0 => Nat.le_refl 0
  | n + 1 => by
    have := cntP_le P n
    unfold cntP
    split <;> omega
theorem grk6 {p : Nat} (hp : gP p) {ws : List Nat} (h : Vs ws) : grk p ws ≤ 6 := by
  rw [grk_cnt hp h]
  exact cntP_le _ 6

set_option maxRecDepth 100000 in
theorem c3_isParity {b : Nat} (hN : NodesAt b) {S : ns_T} (hV : VS S) {k : Nat} (hk : k < S 0 0) {σ : ex_S} {μ : ex_L}(hC : NC σ b S) : Ci 3 yX3_isParity cX3_isParity 2 (some .boolean) [.ref b, .int (nI k)] TT σ μ (fun z' σ' μ' => z' = bI (S 3 k = 9) ∧ σ' = σ ∧ μ' = μ) := by
  refine Cl_of (by decide +kernel) (Nat.le_of_ble_eq_true rfl) ?_
  show Ev RX3 cX3_isParity 2 3 0 0 "isParity" (some .boolean) ev_ext _ _ 0 0 0 [(0, .ref b), (1, .int (nI k))] [] TT σ μ
  have hn := hV.1
  have h2n := two_n hV
  have u3 := (hC.2.2.2.2.1 k hk).2.2.1
  have w3 := (hV.2.2.2.2.2.2.1 k hk).2.2.2.2.2.1
  have hd := hV.2.1
  refine e_aload_n dX3_isParity_0 rfl 0 rfl ?_
  refine e_iload_n dX3_isParity_1 rfl 1 rfl ?_
  refine e_callVi dX3_isParity_2 cvX3_65 rfl (nodes_0 hN) rfl (c3_hasN hN hC (nI k)) (Nat.le_of_ble_eq_true rfl) (Nat.le_refl _) (Nat.le_refl _) rfl (Nat.le_of_ble_eq_true rfl) (fun r2 s2 m2 q2 => ?_)
  obtain ⟨q2, e2, g2⟩ := q2
  rw [e2, g2]
  clear e2 g2 s2 m2
  refine e_if_eq (t := 23) dX3_isParity_5 (by decide) (fun h5 => ?_) (fun h5 => ?_)
  · skip
    rw [q2] at h5
    exact absurd (nhas hV hk) (bI_eq0.mp h5)
  · skip
    refine e_aload_n dX3_isParity_8 rfl 0 rfl ?_
    refine e_getR dX3_isParity_9 lkX3_31 (nodes_0 hN) rfl ?_
    refine e_iload_n dX3_isParity_12 rfl 1 rfl ?_
    refine e_iald dX3_isParity_13 (nodes_3 hN) (vp_in_nI (by omega) (by decide)) ?_
    rw [i_cl (show k < 2 ^ 31 by omega), u3]
    refine e_bipush (v := (-5)) dX3_isParity_14 rfl ?_
    refine e_icmp_ne (t := 23) dX3_isParity_16 (by decide) (fun h16 => ?_) (fun h16 => ?_)
    · skip
      refine e_iconst (v := 0) dX3_isParity_23 rfl ?_
      refine e_reti dX3_isParity_24 ev_nw0 (Nat.le_refl _) (Nat.le_refl _) ?_
      exact ⟨(bI_f (fun q => h16 ((wI_9 _ (by omega)).mpr q))).symm, rfl, rfl⟩
    · skip
      refine e_iconst (v := 1) dX3_isParity_19 rfl ?_
      refine e_goto (t := 24) dX3_isParity_20 (by decide) ?_
      refine e_reti dX3_isParity_24 ev_nw1 (Nat.le_refl _) (Nat.le_refl _) ?_
      exact ⟨(bI_t ((wI_9 _ (by omega)).mp h16)).symm, rfl, rfl⟩

set_option maxHeartbeats 1000000 in
set_option maxRecDepth 100000 in
theorem c0_tryAll {p : Nat} (hp : gP p) {S : ns_T} (hV : VS S) {j d T : Nat} {c : Nat → Nat} (hj : j < S 0 0) (hd5 : d < 5) (hT : T < 2 ^ 31) (hc : ∀ n, n < 16 → c n < 2 ^ 30) {σ : ex_S} {μ : ex_L}(hF : FC σ p) (hC : NC σ 33 S) (h116 : ∀ n, n < 16 → σ 116 n = nI (c n)) : Cv 7 yX0_tryAll cX0_tryAll 11 none [.ref 111, .ref 33, .int (nI j), .int (nI d), .int (nI T)] TT σ μ (fun σ' μ' => (∀ n, n < 16 → σ' 116 n = nI (c n + cif (TryE p S j d T n) 1 0)) ∧ (∀ i, (i < 112 ∨ 116 < i) → σ' i = σ i) ∧ μ' = μ) := by
  refine Cl_of (by decide +kernel) (Nat.le_of_ble_eq_true rfl) ?_
  show Ev RX0 cX0_tryAll 11 7 0 0 "tryAll" none ev_ext _ _ 0 0 0 [(0, .ref 111), (1, .ref 33), (2, .int (nI j)), (3, .int (nI d)), (4, .int (nI T))] [] TT σ μ
  have hn := hV.1
  have h2n := two_n hV
  have hdl := hV.2.2.2.2.1
  have hfj := (hV.2.2.2.2.2.2.1 j hj).2.2.2.1
  have loop : ∀ (σ0 : ex_S) (R1 R2 : Nat → Nat) (z1 z2 : Nat), (∀ i, (i < 112 ∨ 116 < i) → σ0 i = σ i) → SpV σ0 112 R1 z1 → SpI p R1 (fl S T (S 0 0) ++ []) → z1 = grk p (fl S T (S 0 0) ++ []) → SpV σ0 114 R2 z2 → SpI p R2 (fl S (S 0 2) (S 0 0) ++ (fl S T (S 0 0) ++ [])) → z2 = grk p (fl S (S 0 2) (S 0 0) ++ (fl S T (S 0 0) ++ [])) → ∀ (m n : Nat) (σ1 : ex_S), n + m = 16 → (∀ i, i ≠ 116 → σ1 i = σ0 i) → (∀ i, i < 16 → σ1 116 i = nI (if i < n then c i + cif (TryE p S j d T i) 1 0 else c i)) → Ev RX0 cX0_tryAll 11 7 0 0 "tryAll" none ev_ext TT.length (fun v9 T9 σ9 μ9 => T9 = TT ∧ v9 = none ∧ (fun σ' μ' => (∀ n, n < 16 → σ' 116 n = nI (c n + cif (TryE p S j d T n) 1 0)) ∧ (∀ i, (i < 112 ∨ 116 < i) → σ' i = σ i) ∧ μ' = μ) σ9 μ9) 0 0 78 [(0, .ref 111), (1, .ref 33), (2, .int (nI j)), (3, .int (nI d)), (4, .int (nI T)), (5, .int (nI (2 ^ (4 * d)))), (6, .int (nI (S 5 j &&& (S 5 j ^^^ (S 5 j &&& 15 * 2 ^ (4 * d)))))), (7, .int (nI n))] [] TT σ1 μ := by
    intro σ0 R1 R2 z1 z2 f0 p1 i1 e1 p2 i2 e2 m
    have b1 := grk6 hp i1.1
    have b2 := grk6 hp i2.1
    induction m with
    | zero =>
      intro n σ1 hn9 f1 f2
      obtain rfl : n = 16 := by omega
      refine e_iload dX0_tryAll_78 7 rfl ?_
      refine e_aload_n dX0_tryAll_80 rfl 0 rfl ?_
      refine e_getR dX0_tryAll_81 lkX0_25 tt_111 rfl ?_
      refine e_alen dX0_tryAll_84 tt_116 (Nat.le_of_ble_eq_true rfl) ?_
      rw [show Int32.ofNat 16 = nI 16 from rfl]
      refine e_icmp_ge (t := 176) dX0_tryAll_85 (by decide) (fun h85 => ?_) (fun h85 => ?_)
      · skip
        refine e_retv dX0_tryAll_176 (Nat.le_refl _) (Nat.le_refl _) ?_
        exact ⟨fun i hi => by rw [f2 i hi, if_pos hi], fun i hi => by rw [f1 i (by omega)]; exact f0 i hi, rfl⟩
      · skip
        exact absurd (show nI 16 ≤ nI 16 from (i_le (by omega) (by omega)).mpr (by omega)) h85
    | succ m ih =>
      intro n σ1 hn9 f1 f2
      have hF1 : FC σ1 p := hF.to (by rw [f1 1 (by decide)]; exact f0 1 (by decide)) (by rw [f1 2 (by decide)]; exact f0 2 (by decide))
      have hw : sdig (S 5 j) d n < 2 ^ 24 := Nat.lt_trans (sdig_lt hfj hd5 (by omega)) (by decide)
      have hcn := hc n (by omega)
      have p1' : SpV σ1 112 R1 z1 := p1.to (f1 112 (by decide)) (f1 113 (by decide))
      have p2' : SpV σ1 114 R2 z2 := p2.to (f1 114 (by decide)) (f1 115 (by decide))
      have c116 := f2 n (by omega)
      rw [if_neg (Nat.lt_irrefl n)] at c116
      have b3 := grk6 hp (i1.1.cons hw)
      have b4 := grk6 hp (i2.1.cons hw)
      refine e_iload dX0_tryAll_78 7 rfl ?_
      refine e_aload_n dX0_tryAll_80 rfl 0 rfl ?_
      refine e_getR dX0_tryAll_81 lkX0_25 tt_111 rfl ?_
      refine e_alen dX0_tryAll_84 tt_116 (Nat.le_of_ble_eq_true rfl) ?_
      rw [show Int32.ofNat 16 = nI 16 from rfl]
      refine e_icmp_ge (t := 176) dX0_tryAll_85 (by decide) (fun h85 => ?_) (fun h85 => ?_)
      · skip
        exact absurd ((i_le (by omega) (by omega)).mp (show nI 16 ≤ nI n from h85)) (by omega)
      · skip
        refine e_iload dX0_tryAll_88 6 rfl ?_
        refine e_iload dX0_tryAll_90 7 rfl ?_
        refine e_iload dX0_tryAll_92 5 rfl ?_
        refine e_imul dX0_tryAll_94 ?_
        refine e_ior dX0_tryAll_95 ?_
        rw [i_mul, fa_or]
        refine e_istore [(0, .ref 111), (1, .ref 33), (2, .int (nI j)), (3, .int (nI d)), (4, .int (nI T)), (5, .int (nI (2 ^ (4 * d)))), (6, .int (nI (S 5 j &&& (S 5 j ^^^ (S 5 j &&& 15 * 2 ^ (4 * d)))))), (7, .int (nI n)), (8, .int (nI (sdig (S 5 j) d n)))] dX0_tryAll_96 (by decide) rfl ?_
        refine e_aload_n dX0_tryAll_98 rfl 0 rfl ?_
        refine e_getR dX0_tryAll_99 lkX0_18 tt_111 rfl ?_
        refine e_getI dX0_tryAll_102 lkX0_67 (span_0 span_112_) rfl ?_
        rw [p1'.2]
        refine e_aload_n dX0_tryAll_105 rfl 0 rfl ?_
        refine e_getR dX0_tryAll_106 lkX0_18 tt_111 rfl ?_
        refine e_iload dX0_tryAll_109 8 rfl ?_
        refine e_callVi dX0_tryAll_111 cvX0_70 rfl (span_0 span_112_) rfl (c7_left span_112_ hp hw hF1 i1.2.1 p1'.1) (Nat.le_of_ble_eq_true rfl) (Nat.le_refl _) (Nat.le_refl _) rfl (Nat.le_of_ble_eq_true rfl) (fun r111 s111 m111 q111 => ?_)
        obtain ⟨q111, e111, g111⟩ := q111
        rw [e111, g111]
        
        refine e_if_ne (t := 121) dX0_tryAll_114 (by decide) (fun h114 => ?_) (fun h114 => ?_)
        · skip
          have hg114 : grk p ((sdig (S 5 j) d n) :: (fl S T (S 0 0) ++ [])) = z1 + 1 := by
            rw [grk_new (fun q => h114 (by rw [q111, (lf_iff hp i1 hw).mpr q]; rfl)), ← e1]
          refine e_iconst (v := 1) dX0_tryAll_121 rfl ?_
          refine e_iadd dX0_tryAll_122 ?_
          rw [show nI z1 + 1 = nI (grk p ((sdig (S 5 j) d n) :: (fl S T (S 0 0) ++ []))) from (i_add z1 1).trans (by rw [hg114])]
          refine e_istore [(0, .ref 111), (1, .ref 33), (2, .int (nI j)), (3, .int (nI d)), (4, .int (nI T)), (5, .int (nI (2 ^ (4 * d)))), (6, .int (nI (S 5 j &&& (S 5 j ^^^ (S 5 j &&& 15 * 2 ^ (4 * d)))))), (7, .int (nI n)), (8, .int (nI (sdig (S 5 j) d n))), (9, .int (nI (grk p ((sdig (S 5 j) d n) :: (fl S T (S 0 0) ++ [])))))] dX0_tryAll_123 (by decide) rfl ?_
          refine e_aload_n dX0_tryAll_125 rfl 0 rfl ?_
          refine e_getR dX0_tryAll_126 lkX0_22 tt_111 rfl ?_
          refine e_getI dX0_tryAll_129 lkX0_67 (span_0 span_114_) rfl ?_
          rw [p2'.2]
          refine e_aload_n dX0_tryAll_132 rfl 0 rfl ?_
          refine e_getR dX0_tryAll_133 lkX0_22 tt_111 rfl ?_
          refine e_iload dX0_tryAll_136 8 rfl ?_
          refine e_callVi dX0_tryAll_138 cvX0_70 rfl (span_0 span_114_) rfl (c7_left span_114_ hp hw hF1 i2.2.1 p2'.1) (Nat.le_of_ble_eq_true rfl) (Nat.le_refl _) (Nat.le_refl _) rfl (Nat.le_of_ble_eq_true rfl) (fun r138 s138 m138 q138 => ?_)
          obtain ⟨q138, e138, g138⟩ := q138
          rw [e138, g138]
          
          refine e_if_ne (t := 148) dX0_tryAll_141 (by decide) (fun h141 => ?_) (fun h141 => ?_)
          · skip
            have hg141 : grk p ((sdig (S 5 j) d n) :: (fl S (S 0 2) (S 0 0) ++ (fl S T (S 0 0) ++ []))) = z2 + 1 := by
              rw [grk_new (fun q => h141 (by rw [q138, (lf_iff hp i2 hw).mpr q]; rfl)), ← e2]
            refine e_iconst (v := 1) dX0_tryAll_148 rfl ?_
            refine e_iadd dX0_tryAll_149 ?_
            rw [show nI z2 + 1 = nI (grk p ((sdig (S 5 j) d n) :: (fl S (S 0 2) (S 0 0) ++ (fl S T (S 0 0) ++ [])))) from (i_add z2 1).trans (by rw [hg141])]
            refine e_istore [(0, .ref 111), (1, .ref 33), (2, .int (nI j)), (3, .int (nI d)), (4, .int (nI T)), (5, .int (nI (2 ^ (4 * d)))), (6, .int (nI (S 5 j &&& (S 5 j ^^^ (S 5 j &&& 15 * 2 ^ (4 * d)))))), (7, .int (nI n)), (8, .int (nI (sdig (S 5 j) d n))), (9, .int (nI (grk p ((sdig (S 5 j) d n) :: (fl S T (S 0 0) ++ []))))), (10, .int (nI (grk p ((sdig (S 5 j) d n) :: (fl S (S 0 2) (S 0 0) ++ (fl S T (S 0 0) ++ []))))))] dX0_tryAll_150 (by decide) rfl ?_
            refine e_iload dX0_tryAll_152 9 rfl ?_
            refine e_iload dX0_tryAll_154 10 rfl ?_
            refine e_icmp_ne (t := 170) dX0_tryAll_156 (by decide) (fun h156 => ?_) (fun h156 => ?_)
            · skip
              skip
              refine e_iinc (nI (n + 1)) [(0, .ref 111), (1, .ref 33), (2, .int (nI j)), (3, .int (nI d)), (4, .int (nI T)), (5, .int (nI (2 ^ (4 * d)))), (6, .int (nI (S 5 j &&& (S 5 j ^^^ (S 5 j &&& 15 * 2 ^ (4 * d)))))), (7, .int (nI (n + 1))), (8, .int (nI (sdig (S 5 j) d n))), (9, .int (nI (grk p ((sdig (S 5 j) d n) :: (fl S T (S 0 0) ++ []))))), (10, .int (nI (grk p ((sdig (S 5 j) d n) :: (fl S (S 0 2) (S 0 0) ++ (fl S T (S 0 0) ++ []))))))] dX0_tryAll_170 7 rfl (nI_1 n) (by decide) rfl ?_
              refine e_goto (t := 78) dX0_tryAll_173 (by decide) ?_
              refine e_lv [(0, .ref 111), (1, .ref 33), (2, .int (nI j)), (3, .int (nI d)), (4, .int (nI T)), (5, .int (nI (2 ^ (4 * d)))), (6, .int (nI (S 5 j &&& (S 5 j ^^^ (S 5 j &&& 15 * 2 ^ (4 * d)))))), (7, .int (nI (n + 1)))] (List.forall_mem_cons.mpr ⟨List.mem_of_getElem? (i := 0) rfl, List.forall_mem_cons.mpr ⟨List.mem_of_getElem? (i := 1) rfl, List.forall_mem_cons.mpr ⟨List.mem_of_getElem? (i := 2) rfl, List.forall_mem_cons.mpr ⟨List.mem_of_getElem? (i := 3) rfl, List.forall_mem_cons.mpr ⟨List.mem_of_getElem? (i := 4) rfl, List.forall_mem_cons.mpr ⟨List.mem_of_getElem? (i := 5) rfl, List.forall_mem_cons.mpr ⟨List.mem_of_getElem? (i := 6) rfl, List.forall_mem_cons.mpr ⟨List.mem_of_getElem? (i := 7) rfl, fun _ h => absurd h List.not_mem_nil⟩⟩⟩⟩⟩⟩⟩⟩) ?_
              have hT9 : ¬ TryE p S j d T n := fun q => h156 (congrArg nI q)
              refine ih (n + 1) σ1 (by omega) f1 (fun i hi => ?_)
              rw [f2 i hi]
              by_cases e : i = n
              · rw [e, if_neg (Nat.lt_irrefl n), if_pos (Nat.lt_succ_self n), cif_f hT9, Nat.add_zero]
              · by_cases e9 : i < n
                · rw [if_pos e9, if_pos (by omega)]
                · rw [if_neg e9, if_neg (by omega)]
            · skip
              skip
              refine e_aload_n dX0_tryAll_159 rfl 0 rfl ?_
              refine e_getR dX0_tryAll_160 lkX0_25 tt_111 rfl ?_
              refine e_iload dX0_tryAll_163 7 rfl ?_
              refine e_dup2 dX0_tryAll_165 rfl rfl ?_
              refine e_iald dX0_tryAll_166 tt_116 (vp_in_nI (by omega) (by decide)) ?_
              rw [i_cl (show n < 2 ^ 31 by omega), c116]
              refine e_iconst (v := 1) dX0_tryAll_167 rfl ?_
              refine e_iadd dX0_tryAll_168 ?_
              rw [nI_1 (c n)]
              refine e_iast dX0_tryAll_169 tt_116 (vp_in_nI (by omega) (by decide)) ?_
              refine e_iinc (nI (n + 1)) [(0, .ref 111), (1, .ref 33), (2, .int (nI j)), (3, .int (nI d)), (4, .int (nI T)), (5, .int (nI (2 ^ (4 * d)))), (6, .int (nI (S 5 j &&& (S 5 j ^^^ (S 5 j &&& 15 * 2 ^ (4 * d)))))), (7, .int (nI (n + 1))), (8, .int (nI (sdig (S 5 j) d n))), (9, .int (nI (grk p ((sdig (S 5 j) d n) :: (fl S T (S 0 0) ++ []))))), (10, .int (nI (grk p ((sdig (S 5 j) d n) :: (fl S (S 0 2) (S 0 0) ++ (fl S T (S 0 0) ++ []))))))] dX0_tryAll_170 7 rfl (nI_1 n) (by decide) rfl ?_
              refine e_goto (t := 78) dX0_tryAll_173 (by decide) ?_
              refine e_lv [(0, .ref 111), (1, .ref 33), (2, .int (nI j)), (3, .int (nI d)), (4, .int (nI T)), (5, .int (nI (2 ^ (4 * d)))), (6, .int (nI (S 5 j &&& (S 5 j ^^^ (S 5 j &&& 15 * 2 ^ (4 * d)))))), (7, .int (nI (n + 1)))] (List.forall_mem_cons.mpr ⟨List.mem_of_getElem? (i := 0) rfl, List.forall_mem_cons.mpr ⟨List.mem_of_getElem? (i := 1) rfl, List.forall_mem_cons.mpr ⟨List.mem_of_getElem? (i := 2) rfl, List.forall_mem_cons.mpr ⟨List.mem_of_getElem? (i := 3) rfl, List.forall_mem_cons.mpr ⟨List.mem_of_getElem? (i := 4) rfl, List.forall_mem_cons.mpr ⟨List.mem_of_getElem? (i := 5) rfl, List.forall_mem_cons.mpr ⟨List.mem_of_getElem? (i := 6) rfl, List.forall_mem_cons.mpr ⟨List.mem_of_getElem? (i := 7) rfl, fun _ h => absurd h List.not_mem_nil⟩⟩⟩⟩⟩⟩⟩⟩) ?_
              rw [i_cl (show n < 2 ^ 31 by omega)]
              have hT9 : TryE p S j d T n := (i_eq (by omega) (by omega)).mp h156
              refine ih (n + 1) _ (by omega) (fun i hi => by rw [sup_obj hi]; exact f1 i hi) (fun i hi => ?_)
              by_cases e : i = n
              · rw [e, sup_same, if_pos (Nat.lt_succ_self n), cif_t hT9]
              · rw [sup_idx e, f2 i hi]
                by_cases e9 : i < n
                · rw [if_pos e9, if_pos (by omega)]
                · rw [if_neg e9, if_neg (by omega)]
          · skip
            have hg141 : grk p ((sdig (S 5 j) d n) :: (fl S (S 0 2) (S 0 0) ++ (fl S T (S 0 0) ++ []))) = z2 + 0 := by
              rw [grk_told ((lf_iff hp i2 hw).mp ((i_eq (b := 0) (Nat.lt_trans (lf_lt hp 6 _ hw) (by decide)) (by decide)).mp (show nI (lf p R2 6 (sdig (S 5 j) d n)) = nI 0 by rw [← q138]; exact h141))), ← e2, Nat.add_zero]
            refine e_iconst (v := 0) dX0_tryAll_144 rfl ?_
            refine e_goto (t := 149) dX0_tryAll_145 (by decide) ?_
            refine e_iadd dX0_tryAll_149 ?_
            rw [show nI z2 + 0 = nI (grk p ((sdig (S 5 j) d n) :: (fl S (S 0 2) (S 0 0) ++ (fl S T (S 0 0) ++ [])))) from (i_add z2 0).trans (by rw [hg141])]
            refine e_istore [(0, .ref 111), (1, .ref 33), (2, .int (nI j)), (3, .int (nI d)), (4, .int (nI T)), (5, .int (nI (2 ^ (4 * d)))), (6, .int (nI (S 5 j &&& (S 5 j ^^^ (S 5 j &&& 15 * 2 ^ (4 * d)))))), (7, .int (nI n)), (8, .int (nI (sdig (S 5 j) d n))), (9, .int (nI (grk p ((sdig (S 5 j) d n) :: (fl S T (S 0 0) ++ []))))), (10, .int (nI (grk p ((sdig (S 5 j) d n) :: (fl S (S 0 2) (S 0 0) ++ (fl S T (S 0 0) ++ []))))))] dX0_tryAll_150 (by decide) rfl ?_
            refine e_iload dX0_tryAll_152 9 rfl ?_
            refine e_iload dX0_tryAll_154 10 rfl ?_
            refine e_icmp_ne (t := 170) dX0_tryAll_156 (by decide) (fun h156 => ?_) (fun h156 => ?_)
            · skip
              skip
              refine e_iinc (nI (n + 1)) [(0, .ref 111), (1, .ref 33), (2, .int (nI j)), (3, .int (nI d)), (4, .int (nI T)), (5, .int (nI (2 ^ (4 * d)))), (6, .int (nI (S 5 j &&& (S 5 j ^^^ (S 5 j &&& 15 * 2 ^ (4 * d)))))), (7, .int (nI (n + 1))), (8, .int (nI (sdig (S 5 j) d n))), (9, .int (nI (grk p ((sdig (S 5 j) d n) :: (fl S T (S 0 0) ++ []))))), (10, .int (nI (grk p ((sdig (S 5 j) d n) :: (fl S (S 0 2) (S 0 0) ++ (fl S T (S 0 0) ++ []))))))] dX0_tryAll_170 7 rfl (nI_1 n) (by decide) rfl ?_
              refine e_goto (t := 78) dX0_tryAll_173 (by decide) ?_
              refine e_lv [(0, .ref 111), (1, .ref 33), (2, .int (nI j)), (3, .int (nI d)), (4, .int (nI T)), (5, .int (nI (2 ^ (4 * d)))), (6, .int (nI (S 5 j &&& (S 5 j ^^^ (S 5 j &&& 15 * 2 ^ (4 * d)))))), (7, .int (nI (n + 1)))] (List.forall_mem_cons.mpr ⟨List.mem_of_getElem? (i := 0) rfl, List.forall_mem_cons.mpr ⟨List.mem_of_getElem? (i := 1) rfl, List.forall_mem_cons.mpr ⟨List.mem_of_getElem? (i := 2) rfl, List.forall_mem_cons.mpr ⟨List.mem_of_getElem? (i := 3) rfl, List.forall_mem_cons.mpr ⟨List.mem_of_getElem? (i := 4) rfl, List.forall_mem_cons.mpr ⟨List.mem_of_getElem? (i := 5) rfl, List.forall_mem_cons.mpr ⟨List.mem_of_getElem? (i := 6) rfl, List.forall_mem_cons.mpr ⟨List.mem_of_getElem? (i := 7) rfl, fun _ h => absurd h List.not_mem_nil⟩⟩⟩⟩⟩⟩⟩⟩) ?_
              have hT9 : ¬ TryE p S j d T n := fun q => h156 (congrArg nI q)
              refine ih (n + 1) σ1 (by omega) f1 (fun i hi => ?_)
              rw [f2 i hi]
              by_cases e : i = n
              · rw [e, if_neg (Nat.lt_irrefl n), if_pos (Nat.lt_succ_self n), cif_f hT9, Nat.add_zero]
              · by_cases e9 : i < n
                · rw [if_pos e9, if_pos (by omega)]
                · rw [if_neg e9, if_neg (by omega)]
            · skip
              skip
              refine e_aload_n dX0_tryAll_159 rfl 0 rfl ?_
              refine e_getR dX0_tryAll_160 lkX0_25 tt_111 rfl ?_
              refine e_iload dX0_tryAll_163 7 rfl ?_
              refine e_dup2 dX0_tryAll_165 rfl rfl ?_
              refine e_iald dX0_tryAll_166 tt_116 (vp_in_nI (by omega) (by decide)) ?_
              rw [i_cl (show n < 2 ^ 31 by omega), c116]
              refine e_iconst (v := 1) dX0_tryAll_167 rfl ?_
              refine e_iadd dX0_tryAll_168 ?_
              rw [nI_1 (c n)]
              refine e_iast dX0_tryAll_169 tt_116 (vp_in_nI (by omega) (by decide)) ?_
              refine e_iinc (nI (n + 1)) [(0, .ref 111), (1, .ref 33), (2, .int (nI j)), (3, .int (nI d)), (4, .int (nI T)), (5, .int (nI (2 ^ (4 * d)))), (6, .int (nI (S 5 j &&& (S 5 j ^^^ (S 5 j &&& 15 * 2 ^ (4 * d)))))), (7, .int (nI (n + 1))), (8, .int (nI (sdig (S 5 j) d n))), (9, .int (nI (grk p ((sdig (S 5 j) d n) :: (fl S T (S 0 0) ++ []))))), (10, .int (nI (grk p ((sdig (S 5 j) d n) :: (fl S (S 0 2) (S 0 0) ++ (fl S T (S 0 0) ++ []))))))] dX0_tryAll_170 7 rfl (nI_1 n) (by decide) rfl ?_
              refine e_goto (t := 78) dX0_tryAll_173 (by decide) ?_
              refine e_lv [(0, .ref 111), (1, .ref 33), (2, .int (nI j)), (3, .int (nI d)), (4, .int (nI T)), (5, .int (nI (2 ^ (4 * d)))), (6, .int (nI (S 5 j &&& (S 5 j ^^^ (S 5 j &&& 15 * 2 ^ (4 * d)))))), (7, .int (nI (n + 1)))] (List.forall_mem_cons.mpr ⟨List.mem_of_getElem? (i := 0) rfl, List.forall_mem_cons.mpr ⟨List.mem_of_getElem? (i := 1) rfl, List.forall_mem_cons.mpr ⟨List.mem_of_getElem? (i := 2) rfl, List.forall_mem_cons.mpr ⟨List.mem_of_getElem? (i := 3) rfl, List.forall_mem_cons.mpr ⟨List.mem_of_getElem? (i := 4) rfl, List.forall_mem_cons.mpr ⟨List.mem_of_getElem? (i := 5) rfl, List.forall_mem_cons.mpr ⟨List.mem_of_getElem? (i := 6) rfl, List.forall_mem_cons.mpr ⟨List.mem_of_getElem? (i := 7) rfl, fun _ h => absurd h List.not_mem_nil⟩⟩⟩⟩⟩⟩⟩⟩) ?_
              rw [i_cl (show n < 2 ^ 31 by omega)]
              have hT9 : TryE p S j d T n := (i_eq (by omega) (by omega)).mp h156
              refine ih (n + 1) _ (by omega) (fun i hi => by rw [sup_obj hi]; exact f1 i hi) (fun i hi => ?_)
              by_cases e : i = n
              · rw [e, sup_same, if_pos (Nat.lt_succ_self n), cif_t hT9]
              · rw [sup_idx e, f2 i hi]
                by_cases e9 : i < n
                · rw [if_pos e9, if_pos (by omega)]
                · rw [if_neg e9, if_neg (by omega)]
        · skip
          have hg114 : grk p ((sdig (S 5 j) d n) :: (fl S T (S 0 0) ++ [])) = z1 + 0 := by
            rw [grk_told ((lf_iff hp i1 hw).mp ((i_eq (b := 0) (Nat.lt_trans (lf_lt hp 6 _ hw) (by decide)) (by decide)).mp (show nI (lf p R1 6 (sdig (S 5 j) d n)) = nI 0 by rw [← q111]; exact h114))), ← e1, Nat.add_zero]
          refine e_iconst (v := 0) dX0_tryAll_117 rfl ?_
          refine e_goto (t := 122) dX0_tryAll_118 (by decide) ?_
          refine e_iadd dX0_tryAll_122 ?_
          rw [show nI z1 + 0 = nI (grk p ((sdig (S 5 j) d n) :: (fl S T (S 0 0) ++ []))) from (i_add z1 0).trans (by rw [hg114])]
          refine e_istore [(0, .ref 111), (1, .ref 33), (2, .int (nI j)), (3, .int (nI d)), (4, .int (nI T)), (5, .int (nI (2 ^ (4 * d)))), (6, .int (nI (S 5 j &&& (S 5 j ^^^ (S 5 j &&& 15 * 2 ^ (4 * d)))))), (7, .int (nI n)), (8, .int (nI (sdig (S 5 j) d n))), (9, .int (nI (grk p ((sdig (S 5 j) d n) :: (fl S T (S 0 0) ++ [])))))] dX0_tryAll_123 (by decide) rfl ?_
          refine e_aload_n dX0_tryAll_125 rfl 0 rfl ?_
          refine e_getR dX0_tryAll_126 lkX0_22 tt_111 rfl ?_
          refine e_getI dX0_tryAll_129 lkX0_67 (span_0 span_114_) rfl ?_
          rw [p2'.2]
          refine e_aload_n dX0_tryAll_132 rfl 0 rfl ?_
          refine e_getR dX0_tryAll_133 lkX0_22 tt_111 rfl ?_
          refine e_iload dX0_tryAll_136 8 rfl ?_
          refine e_callVi dX0_tryAll_138 cvX0_70 rfl (span_0 span_114_) rfl (c7_left span_114_ hp hw hF1 i2.2.1 p2'.1) (Nat.le_of_ble_eq_true rfl) (Nat.le_refl _) (Nat.le_refl _) rfl (Nat.le_of_ble_eq_true rfl) (fun r138 s138 m138 q138 => ?_)
          obtain ⟨q138, e138, g138⟩ := q138
          rw [e138, g138]
          
          refine e_if_ne (t := 148) dX0_tryAll_141 (by decide) (fun h141 => ?_) (fun h141 => ?_)
          · skip
            have hg141 : grk p ((sdig (S 5 j) d n) :: (fl S (S 0 2) (S 0 0) ++ (fl S T (S 0 0) ++ []))) = z2 + 1 := by
              rw [grk_new (fun q => h141 (by rw [q138, (lf_iff hp i2 hw).mpr q]; rfl)), ← e2]
            refine e_iconst (v := 1) dX0_tryAll_148 rfl ?_
            refine e_iadd dX0_tryAll_149 ?_
            rw [show nI z2 + 1 = nI (grk p ((sdig (S 5 j) d n) :: (fl S (S 0 2) (S 0 0) ++ (fl S T (S 0 0) ++ [])))) from (i_add z2 1).trans (by rw [hg141])]
            refine e_istore [(0, .ref 111), (1, .ref 33), (2, .int (nI j)), (3, .int (nI d)), (4, .int (nI T)), (5, .int (nI (2 ^ (4 * d)))), (6, .int (nI (S 5 j &&& (S 5 j ^^^ (S 5 j &&& 15 * 2 ^ (4 * d)))))), (7, .int (nI n)), (8, .int (nI (sdig (S 5 j) d n))), (9, .int (nI (grk p ((sdig (S 5 j) d n) :: (fl S T (S 0 0) ++ []))))), (10, .int (nI (grk p ((sdig (S 5 j) d n) :: (fl S (S 0 2) (S 0 0) ++ (fl S T (S 0 0) ++ []))))))] dX0_tryAll_150 (by decide) rfl ?_
            refine e_iload dX0_tryAll_152 9 rfl ?_
            refine e_iload dX0_tryAll_154 10 rfl ?_
            refine e_icmp_ne (t := 170) dX0_tryAll_156 (by decide) (fun h156 => ?_) (fun h156 => ?_)
            · skip
              skip
              refine e_iinc (nI (n + 1)) [(0, .ref 111), (1, .ref 33), (2, .int (nI j)), (3, .int (nI d)), (4, .int (nI T)), (5, .int (nI (2 ^ (4 * d)))), (6, .int (nI (S 5 j &&& (S 5 j ^^^ (S 5 j &&& 15 * 2 ^ (4 * d)))))), (7, .int (nI (n + 1))), (8, .int (nI (sdig (S 5 j) d n))), (9, .int (nI (grk p ((sdig (S 5 j) d n) :: (fl S T (S 0 0) ++ []))))), (10, .int (nI (grk p ((sdig (S 5 j) d n) :: (fl S (S 0 2) (S 0 0) ++ (fl S T (S 0 0) ++ []))))))] dX0_tryAll_170 7 rfl (nI_1 n) (by decide) rfl ?_
              refine e_goto (t := 78) dX0_tryAll_173 (by decide) ?_
              refine e_lv [(0, .ref 111), (1, .ref 33), (2, .int (nI j)), (3, .int (nI d)), (4, .int (nI T)), (5, .int (nI (2 ^ (4 * d)))), (6, .int (nI (S 5 j &&& (S 5 j ^^^ (S 5 j &&& 15 * 2 ^ (4 * d)))))), (7, .int (nI (n + 1)))] (List.forall_mem_cons.mpr ⟨List.mem_of_getElem? (i := 0) rfl, List.forall_mem_cons.mpr ⟨List.mem_of_getElem? (i := 1) rfl, List.forall_mem_cons.mpr ⟨List.mem_of_getElem? (i := 2) rfl, List.forall_mem_cons.mpr ⟨List.mem_of_getElem? (i := 3) rfl, List.forall_mem_cons.mpr ⟨List.mem_of_getElem? (i := 4) rfl, List.forall_mem_cons.mpr ⟨List.mem_of_getElem? (i := 5) rfl, List.forall_mem_cons.mpr ⟨List.mem_of_getElem? (i := 6) rfl, List.forall_mem_cons.mpr ⟨List.mem_of_getElem? (i := 7) rfl, fun _ h => absurd h List.not_mem_nil⟩⟩⟩⟩⟩⟩⟩⟩) ?_
              have hT9 : ¬ TryE p S j d T n := fun q => h156 (congrArg nI q)
              refine ih (n + 1) σ1 (by omega) f1 (fun i hi => ?_)
              rw [f2 i hi]
              by_cases e : i = n
              · rw [e, if_neg (Nat.lt_irrefl n), if_pos (Nat.lt_succ_self n), cif_f hT9, Nat.add_zero]
              · by_cases e9 : i < n
                · rw [if_pos e9, if_pos (by omega)]
                · rw [if_neg e9, if_neg (by omega)]
            · skip
              skip
              refine e_aload_n dX0_tryAll_159 rfl 0 rfl ?_
              refine e_getR dX0_tryAll_160 lkX0_25 tt_111 rfl ?_
              refine e_iload dX0_tryAll_163 7 rfl ?_
              refine e_dup2 dX0_tryAll_165 rfl rfl ?_
              refine e_iald dX0_tryAll_166 tt_116 (vp_in_nI (by omega) (by decide)) ?_
              rw [i_cl (show n < 2 ^ 31 by omega), c116]
              refine e_iconst (v := 1) dX0_tryAll_167 rfl ?_
              refine e_iadd dX0_tryAll_168 ?_
              rw [nI_1 (c n)]
              refine e_iast dX0_tryAll_169 tt_116 (vp_in_nI (by omega) (by decide)) ?_
              refine e_iinc (nI (n + 1)) [(0, .ref 111), (1, .ref 33), (2, .int (nI j)), (3, .int (nI d)), (4, .int (nI T)), (5, .int (nI (2 ^ (4 * d)))), (6, .int (nI (S 5 j &&& (S 5 j ^^^ (S 5 j &&& 15 * 2 ^ (4 * d)))))), (7, .int (nI (n + 1))), (8, .int (nI (sdig (S 5 j) d n))), (9, .int (nI (grk p ((sdig (S 5 j) d n) :: (fl S T (S 0 0) ++ []))))), (10, .int (nI (grk p ((sdig (S 5 j) d n) :: (fl S (S 0 2) (S 0 0) ++ (fl S T (S 0 0) ++ []))))))] dX0_tryAll_170 7 rfl (nI_1 n) (by decide) rfl ?_
              refine e_goto (t := 78) dX0_tryAll_173 (by decide) ?_
              refine e_lv [(0, .ref 111), (1, .ref 33), (2, .int (nI j)), (3, .int (nI d)), (4, .int (nI T)), (5, .int (nI (2 ^ (4 * d)))), (6, .int (nI (S 5 j &&& (S 5 j ^^^ (S 5 j &&& 15 * 2 ^ (4 * d)))))), (7, .int (nI (n + 1)))] (List.forall_mem_cons.mpr ⟨List.mem_of_getElem? (i := 0) rfl, List.forall_mem_cons.mpr ⟨List.mem_of_getElem? (i := 1) rfl, List.forall_mem_cons.mpr ⟨List.mem_of_getElem? (i := 2) rfl, List.forall_mem_cons.mpr ⟨List.mem_of_getElem? (i := 3) rfl, List.forall_mem_cons.mpr ⟨List.mem_of_getElem? (i := 4) rfl, List.forall_mem_cons.mpr ⟨List.mem_of_getElem? (i := 5) rfl, List.forall_mem_cons.mpr ⟨List.mem_of_getElem? (i := 6) rfl, List.forall_mem_cons.mpr ⟨List.mem_of_getElem? (i := 7) rfl, fun _ h => absurd h List.not_mem_nil⟩⟩⟩⟩⟩⟩⟩⟩) ?_
              rw [i_cl (show n < 2 ^ 31 by omega)]
              have hT9 : TryE p S j d T n := (i_eq (by omega) (by omega)).mp h156
              refine ih (n + 1) _ (by omega) (fun i hi => by rw [sup_obj hi]; exact f1 i hi) (fun i hi => ?_)
              by_cases e : i = n
              · rw [e, sup_same, if_pos (Nat.lt_succ_self n), cif_t hT9]
              · rw [sup_idx e, f2 i hi]
                by_cases e9 : i < n
                · rw [if_pos e9, if_pos (by omega)]
                · rw [if_neg e9, if_neg (by omega)]
          · skip
            have hg141 : grk p ((sdig (S 5 j) d n) :: (fl S (S 0 2) (S 0 0) ++ (fl S T (S 0 0) ++ []))) = z2 + 0 := by
              rw [grk_told ((lf_iff hp i2 hw).mp ((i_eq (b := 0) (Nat.lt_trans (lf_lt hp 6 _ hw) (by decide)) (by decide)).mp (show nI (lf p R2 6 (sdig (S 5 j) d n)) = nI 0 by rw [← q138]; exact h141))), ← e2, Nat.add_zero]
            refine e_iconst (v := 0) dX0_tryAll_144 rfl ?_
            refine e_goto (t := 149) dX0_tryAll_145 (by decide) ?_
            refine e_iadd dX0_tryAll_149 ?_
            rw [show nI z2 + 0 = nI (grk p ((sdig (S 5 j) d n) :: (fl S (S 0 2) (S 0 0) ++ (fl S T (S 0 0) ++ [])))) from (i_add z2 0).trans (by rw [hg141])]
            refine e_istore [(0, .ref 111), (1, .ref 33), (2, .int (nI j)), (3, .int (nI d)), (4, .int (nI T)), (5, .int (nI (2 ^ (4 * d)))), (6, .int (nI (S 5 j &&& (S 5 j ^^^ (S 5 j &&& 15 * 2 ^ (4 * d)))))), (7, .int (nI n)), (8, .int (nI (sdig (S 5 j) d n))), (9, .int (nI (grk p ((sdig (S 5 j) d n) :: (fl S T (S 0 0) ++ []))))), (10, .int (nI (grk p ((sdig (S 5 j) d n) :: (fl S (S 0 2) (S 0 0) ++ (fl S T (S 0 0) ++ []))))))] dX0_tryAll_150 (by decide) rfl ?_
            refine e_iload dX0_tryAll_152 9 rfl ?_
            refine e_iload dX0_tryAll_154 10 rfl ?_
            refine e_icmp_ne (t := 170) dX0_tryAll_156 (by decide) (fun h156 => ?_) (fun h156 => ?_)
            · skip
              skip
              refine e_iinc (nI (n + 1)) [(0, .ref 111), (1, .ref 33), (2, .int (nI j)), (3, .int (nI d)), (4, .int (nI T)), (5, .int (nI (2 ^ (4 * d)))), (6, .int (nI (S 5 j &&& (S 5 j ^^^ (S 5 j &&& 15 * 2 ^ (4 * d)))))), (7, .int (nI (n + 1))), (8, .int (nI (sdig (S 5 j) d n))), (9, .int (nI (grk p ((sdig (S 5 j) d n) :: (fl S T (S 0 0) ++ []))))), (10, .int (nI (grk p ((sdig (S 5 j) d n) :: (fl S (S 0 2) (S 0 0) ++ (fl S T (S 0 0) ++ []))))))] dX0_tryAll_170 7 rfl (nI_1 n) (by decide) rfl ?_
              refine e_goto (t := 78) dX0_tryAll_173 (by decide) ?_
              refine e_lv [(0, .ref 111), (1, .ref 33), (2, .int (nI j)), (3, .int (nI d)), (4, .int (nI T)), (5, .int (nI (2 ^ (4 * d)))), (6, .int (nI (S 5 j &&& (S 5 j ^^^ (S 5 j &&& 15 * 2 ^ (4 * d)))))), (7, .int (nI (n + 1)))] (List.forall_mem_cons.mpr ⟨List.mem_of_getElem? (i := 0) rfl, List.forall_mem_cons.mpr ⟨List.mem_of_getElem? (i := 1) rfl, List.forall_mem_cons.mpr ⟨List.mem_of_getElem? (i := 2) rfl, List.forall_mem_cons.mpr ⟨List.mem_of_getElem? (i := 3) rfl, List.forall_mem_cons.mpr ⟨List.mem_of_getElem? (i := 4) rfl, List.forall_mem_cons.mpr ⟨List.mem_of_getElem? (i := 5) rfl, List.forall_mem_cons.mpr ⟨List.mem_of_getElem? (i := 6) rfl, List.forall_mem_cons.mpr ⟨List.mem_of_getElem? (i := 7) rfl, fun _ h => absurd h List.not_mem_nil⟩⟩⟩⟩⟩⟩⟩⟩) ?_
              have hT9 : ¬ TryE p S j d T n := fun q => h156 (congrArg nI q)
              refine ih (n + 1) σ1 (by omega) f1 (fun i hi => ?_)
              rw [f2 i hi]
              by_cases e : i = n
              · rw [e, if_neg (Nat.lt_irrefl n), if_pos (Nat.lt_succ_self n), cif_f hT9, Nat.add_zero]
              · by_cases e9 : i < n
                · rw [if_pos e9, if_pos (by omega)]
                · rw [if_neg e9, if_neg (by omega)]
            · skip
              skip
              refine e_aload_n dX0_tryAll_159 rfl 0 rfl ?_
              refine e_getR dX0_tryAll_160 lkX0_25 tt_111 rfl ?_
              refine e_iload dX0_tryAll_163 7 rfl ?_
              refine e_dup2 dX0_tryAll_165 rfl rfl ?_
              refine e_iald dX0_tryAll_166 tt_116 (vp_in_nI (by omega) (by decide)) ?_
              rw [i_cl (show n < 2 ^ 31 by omega), c116]
              refine e_iconst (v := 1) dX0_tryAll_167 rfl ?_
              refine e_iadd dX0_tryAll_168 ?_
              rw [nI_1 (c n)]
              refine e_iast dX0_tryAll_169 tt_116 (vp_in_nI (by omega) (by decide)) ?_
              refine e_iinc (nI (n + 1)) [(0, .ref 111), (1, .ref 33), (2, .int (nI j)), (3, .int (nI d)), (4, .int (nI T)), (5, .int (nI (2 ^ (4 * d)))), (6, .int (nI (S 5 j &&& (S 5 j ^^^ (S 5 j &&& 15 * 2 ^ (4 * d)))))), (7, .int (nI (n + 1))), (8, .int (nI (sdig (S 5 j) d n))), (9, .int (nI (grk p ((sdig (S 5 j) d n) :: (fl S T (S 0 0) ++ []))))), (10, .int (nI (grk p ((sdig (S 5 j) d n) :: (fl S (S 0 2) (S 0 0) ++ (fl S T (S 0 0) ++ []))))))] dX0_tryAll_170 7 rfl (nI_1 n) (by decide) rfl ?_
              refine e_goto (t := 78) dX0_tryAll_173 (by decide) ?_
              refine e_lv [(0, .ref 111), (1, .ref 33), (2, .int (nI j)), (3, .int (nI d)), (4, .int (nI T)), (5, .int (nI (2 ^ (4 * d)))), (6, .int (nI (S 5 j &&& (S 5 j ^^^ (S 5 j &&& 15 * 2 ^ (4 * d)))))), (7, .int (nI (n + 1)))] (List.forall_mem_cons.mpr ⟨List.mem_of_getElem? (i := 0) rfl, List.forall_mem_cons.mpr ⟨List.mem_of_getElem? (i := 1) rfl, List.forall_mem_cons.mpr ⟨List.mem_of_getElem? (i := 2) rfl, List.forall_mem_cons.mpr ⟨List.mem_of_getElem? (i := 3) rfl, List.forall_mem_cons.mpr ⟨List.mem_of_getElem? (i := 4) rfl, List.forall_mem_cons.mpr ⟨List.mem_of_getElem? (i := 5) rfl, List.forall_mem_cons.mpr ⟨List.mem_of_getElem? (i := 6) rfl, List.forall_mem_cons.mpr ⟨List.mem_of_getElem? (i := 7) rfl, fun _ h => absurd h List.not_mem_nil⟩⟩⟩⟩⟩⟩⟩⟩) ?_
              rw [i_cl (show n < 2 ^ 31 by omega)]
              have hT9 : TryE p S j d T n := (i_eq (by omega) (by omega)).mp h156
              refine ih (n + 1) _ (by omega) (fun i hi => by rw [sup_obj hi]; exact f1 i hi) (fun i hi => ?_)
              by_cases e : i = n
              · rw [e, sup_same, if_pos (Nat.lt_succ_self n), cif_t hT9]
              · rw [sup_idx e, f2 i hi]
                by_cases e9 : i < n
                · rw [if_pos e9, if_pos (by omega)]
                · rw [if_neg e9, if_neg (by omega)]
  refine e_aload_n dX0_tryAll_0 rfl 0 rfl ?_
  refine e_getR dX0_tryAll_1 lkX0_18 tt_111 rfl ?_
  refine e_callVv dX0_tryAll_4 cvX0_45 rfl (span_0 span_112_) rfl (c7_clear span_112_) (Nat.le_of_ble_eq_true rfl) (Nat.le_refl _) (Nat.le_refl _) rfl (Nat.le_of_ble_eq_true rfl) (fun s4 m4 q4 => ?_)
  obtain ⟨p4, f4, g4⟩ := q4
  rw [g4]
  refine e_aload_n dX0_tryAll_7 rfl 0 rfl ?_
  refine e_getR dX0_tryAll_8 lkX0_18 tt_111 rfl ?_
  refine e_aload_n dX0_tryAll_11 rfl 1 rfl ?_
  refine e_iload dX0_tryAll_12 4 rfl ?_
  refine e_callVv dX0_tryAll_14 cvX0_48 rfl (span_0 span_112_) rfl (c7_takeAll span_112_ nodes_33_ (by decide) (by decide) hp hV (t := T) hT (hF.to (f4 1 (by decide) (by decide)) (f4 2 (by decide) (by decide))) (hC.to hV (fun i h1 h2 => f4 i (by omega) (by omega))) p4 (SpI_nil p) rfl) (Nat.le_of_ble_eq_true rfl) (Nat.le_refl _) (Nat.le_refl _) rfl (Nat.le_of_ble_eq_true rfl) (fun s14 m14 q14 => ?_)
  obtain ⟨f14, g14, R1, z1, p14, i14, e14⟩ := q14
  rw [g14]
  refine e_aload_n dX0_tryAll_17 rfl 0 rfl ?_
  refine e_getR dX0_tryAll_18 lkX0_22 tt_111 rfl ?_
  refine e_aload_n dX0_tryAll_21 rfl 0 rfl ?_
  refine e_getR dX0_tryAll_22 lkX0_18 tt_111 rfl ?_
  refine e_callVv dX0_tryAll_25 cvX0_52 rfl (span_0 span_114_) rfl (c7_copyFrom span_114_ span_112_ (by decide) (by decide) (by decide)) (Nat.le_of_ble_eq_true rfl) (Nat.le_refl _) (Nat.le_refl _) rfl (Nat.le_of_ble_eq_true rfl) (fun s25 m25 q25 => ?_)
  obtain ⟨p25, f25, g25⟩ := q25
  rw [g25]
  refine e_aload_n dX0_tryAll_28 rfl 0 rfl ?_
  refine e_getR dX0_tryAll_29 lkX0_22 tt_111 rfl ?_
  refine e_aload_n dX0_tryAll_32 rfl 1 rfl ?_
  refine e_aload_n dX0_tryAll_33 rfl 1 rfl ?_
  refine e_getI dX0_tryAll_34 lkX0_56 (nodes_0 nodes_33_) rfl ?_
  have a25 : ∀ i, (i < 112 ∨ 115 < i) → s25 i = σ i := fun i hi => by rw [f25 i (by omega) (by omega), f14 i (by omega) (by omega), f4 i (by omega) (by omega)]
  rw [a25 33 (by decide), hC.2.2.1]
  refine e_callVv dX0_tryAll_37 cvX0_48 rfl (span_0 span_114_) rfl (c7_takeAll span_114_ nodes_33_ (by decide) (by decide) hp hV (t := S 0 2) (by omega) (hF.to (a25 1 (by decide)) (a25 2 (by decide))) (hC.to hV (fun i h1 h2 => a25 i (by omega))) (p25 R1 z1 p14) i14 e14) (Nat.le_of_ble_eq_true rfl) (Nat.le_refl _) (Nat.le_refl _) rfl (Nat.le_of_ble_eq_true rfl) (fun s37 m37 q37 => ?_)
  obtain ⟨f37, g37, R2, z2, p37, i37, e37⟩ := q37
  rw [g37]
  have a37 : ∀ i, (i < 112 ∨ 115 < i) → s37 i = σ i := fun i hi => by rw [f37 i (by omega) (by omega)]; exact a25 i hi
  refine e_iconst (v := 1) dX0_tryAll_40 rfl ?_
  refine e_iconst (v := 4) dX0_tryAll_41 rfl ?_
  refine e_iload_n dX0_tryAll_42 rfl 3 rfl ?_
  refine e_imul dX0_tryAll_43 ?_
  refine e_ishl dX0_tryAll_44 ?_
  rw [show (4 : Int32) = nI 4 from rfl, i_mul, i_shl1 (by omega)]
  refine e_istore [(0, .ref 111), (1, .ref 33), (2, .int (nI j)), (3, .int (nI d)), (4, .int (nI T)), (5, .int (nI (2 ^ (4 * d))))] dX0_tryAll_45 (by decide) rfl ?_
  refine e_aload_n dX0_tryAll_47 rfl 1 rfl ?_
  refine e_iload_n dX0_tryAll_48 rfl 2 rfl ?_
  refine e_callVi dX0_tryAll_49 cvX0_60 rfl (nodes_0 nodes_33_) rfl (c3_hasN nodes_33_ (hC.to hV (fun i h1 h2 => a37 i (by omega))) (nI j)) (Nat.le_of_ble_eq_true rfl) (Nat.le_refl _) (Nat.le_refl _) rfl (Nat.le_of_ble_eq_true rfl) (fun r49 s49 m49 q49 => ?_)
  obtain ⟨q49, e49, g49⟩ := q49
  rw [e49, g49]
  clear e49 g49 s49 m49
  refine e_if_eq (t := 72) dX0_tryAll_52 (by decide) (fun h52 => ?_) (fun h52 => ?_)
  · skip
    rw [q49] at h52
    exact absurd (nhas hV hj) (bI_eq0.mp h52)
  · skip
    refine e_aload_n dX0_tryAll_55 rfl 1 rfl ?_
    refine e_getR dX0_tryAll_56 lkX0_64 (nodes_0 nodes_33_) rfl ?_
    refine e_iload_n dX0_tryAll_59 rfl 2 rfl ?_
    refine e_iald dX0_tryAll_60 (nodes_4 nodes_33_) (vp_in_nI (by omega) (by decide)) ?_
    rw [i_cl (show j < 2 ^ 31 by omega), a37 37 (by decide), (hC.2.2.2.2.1 j hj).2.2.2.1]
    refine e_bipush (v := 15) dX0_tryAll_61 rfl ?_
    refine e_iload dX0_tryAll_63 5 rfl ?_
    refine e_imul dX0_tryAll_65 ?_
    refine e_iconst (v := (-1)) dX0_tryAll_66 rfl ?_
    refine e_ixor dX0_tryAll_67 ?_
    refine e_iand dX0_tryAll_68 ?_
    rw [show (15 : Int32) = nI 15 from rfl, i_mul, not_i _ _ (by omega)]
    refine e_goto (t := 73) dX0_tryAll_69 (by decide) ?_
    refine e_istore [(0, .ref 111), (1, .ref 33), (2, .int (nI j)), (3, .int (nI d)), (4, .int (nI T)), (5, .int (nI (2 ^ (4 * d)))), (6, .int (nI (S 5 j &&& (S 5 j ^^^ (S 5 j &&& 15 * 2 ^ (4 * d))))))] dX0_tryAll_73 (by decide) rfl ?_
    refine e_iconst (v := 0) dX0_tryAll_75 rfl ?_
    refine e_istore [(0, .ref 111), (1, .ref 33), (2, .int (nI j)), (3, .int (nI d)), (4, .int (nI T)), (5, .int (nI (2 ^ (4 * d)))), (6, .int (nI (S 5 j &&& (S 5 j ^^^ (S 5 j &&& 15 * 2 ^ (4 * d)))))), (7, .int (nI 0))] dX0_tryAll_76 (by decide) rfl ?_
    exact loop s37 R1 R2 z1 z2 (fun i hi => a37 i (by omega)) (p14.to (by rw [f37 112 (by decide) (by decide)]; exact f25 112 (by decide) (by decide)) (by rw [f37 113 (by decide) (by decide)]; exact f25 113 (by decide) (by decide))) i14 e14 p37 i37 e37 16 0 s37 (by omega) (fun _ _ => rfl) (fun i hi => by rw [if_neg (Nat.not_lt_zero i), a37 116 (by decide)]; exact h116 i hi)

set_option maxHeartbeats 1000000 in
set_option maxRecDepth 100000 in
theorem c0_bestNumber {p : Nat} (hp : gP p) {S : ns_T} (hV : VS S) {j d e : Nat} (hj : j < S 0 0) (hd5 : d < 5) (he : e ≤ 10) {σ : ex_S} {μ : ex_L}(hF : FC σ p) (hC : NC σ 33 S) : Ci 8 yX0_bestNumber cX0_bestNumber 8 (some .int) [.ref 111, .ref 33, .int (nI j), .int (nI d), .int (nI e)] TT σ μ (fun z' σ' μ' => z' = nI (bsF (fun n => ntry p S j d e n) 16) ∧ (∀ i, (i < 112 ∨ 116 < i) → σ' i = σ i) ∧ μ' = μ) := by
  refine Cl_of (by decide +kernel) (Nat.le_of_ble_eq_true rfl) ?_
  show Ev RX0 cX0_bestNumber 8 8 0 0 "bestNumber" (some .int) ev_ext _ _ 0 0 0 [(0, .ref 111), (1, .ref 33), (2, .int (nI j)), (3, .int (nI d)), (4, .int (nI e))] [] TT σ μ
  have hn := hV.1
  have h2n := two_n hV
  have hrl := naoth_le S j
  have hal := nall_lt hV
  have h2a : nall S + 1 = 2 ^ S 0 0 := by unfold nall; have := Nat.two_pow_pos (S 0 0); omega
  have hnt : ∀ n m, ncnt (TryP p S j d e n) m ≤ m := fun n m => ncnt_le _ m
  have loop3 : ∀ (σ0 : ex_S), (∀ i, (i < 112 ∨ 116 < i) → σ0 i = σ i) → (∀ n, n < 16 → σ0 116 n = nI (ntry p S j d e n)) → ∀ (m n : Nat), n + m = 16 → 1 ≤ n → Ev RX0 cX0_bestNumber 8 8 0 0 "bestNumber" (some .int) ev_ext TT.length (fun v9 T9 σ9 μ9 => T9 = TT ∧ ∃ z9, v9 = some (.int z9) ∧ (fun z' σ' μ' => z' = nI (bsF (fun n => ntry p S j d e n) 16) ∧ (∀ i, (i < 112 ∨ 116 < i) → σ' i = σ i) ∧ μ' = μ) z9 σ9 μ9) 0 0 95 [(0, .ref 111), (1, .ref 33), (2, .int (nI j)), (3, .int (nI d)), (4, .int (nI e)), (5, .int (nI (naoth S j))), (6, .int (nI (bsF (fun n => ntry p S j d e n) n))), (7, .int (nI n))] [] TT σ0 μ := by
    intro σ0 f0 f1 m
    induction m with
    | zero =>
      intro n hn9 h1
      obtain rfl : n = 16 := by omega
      refine e_iload dX0_bestNumber_95 7 rfl ?_
      refine e_aload_n dX0_bestNumber_97 rfl 0 rfl ?_
      refine e_getR dX0_bestNumber_98 lkX0_25 tt_111 rfl ?_
      refine e_alen dX0_bestNumber_101 tt_116 (Nat.le_of_ble_eq_true rfl) ?_
      rw [show Int32.ofNat 16 = nI 16 from rfl]
      refine e_icmp_ge (t := 132) dX0_bestNumber_102 (by decide) (fun h102 => ?_) (fun h102 => ?_)
      · skip
        refine e_iload dX0_bestNumber_132 6 rfl ?_
        refine e_reti dX0_bestNumber_134 ev_nwi (Nat.le_refl _) (Nat.le_refl _) ?_
        exact ⟨rfl, f0, rfl⟩
      · skip
        exact absurd (show nI 16 ≤ nI 16 from (i_le (by omega) (by omega)).mpr (by omega)) h102
    | succ m ih =>
      intro n hn9 h1
      have hb := bsF_lt (fun n => ntry p S j d e n) n (by omega)
      have k1 : ntry p S j d e n ≤ 1024 := Nat.le_trans (hnt n _) h2n
      have k2 : ntry p S j d e (bsF (fun n => ntry p S j d e n) n) ≤ 1024 := Nat.le_trans (hnt _ _) h2n
      refine e_iload dX0_bestNumber_95 7 rfl ?_
      refine e_aload_n dX0_bestNumber_97 rfl 0 rfl ?_
      refine e_getR dX0_bestNumber_98 lkX0_25 tt_111 rfl ?_
      refine e_alen dX0_bestNumber_101 tt_116 (Nat.le_of_ble_eq_true rfl) ?_
      rw [show Int32.ofNat 16 = nI 16 from rfl]
      refine e_icmp_ge (t := 132) dX0_bestNumber_102 (by decide) (fun h102 => ?_) (fun h102 => ?_)
      · skip
        exact absurd ((i_le (by omega) (by omega)).mp (show nI 16 ≤ nI n from h102)) (by omega)
      · skip
        refine e_aload_n dX0_bestNumber_105 rfl 0 rfl ?_
        refine e_getR dX0_bestNumber_106 lkX0_25 tt_111 rfl ?_
        refine e_iload dX0_bestNumber_109 7 rfl ?_
        refine e_iald dX0_bestNumber_111 tt_116 (vp_in_nI (by omega) (by decide)) ?_
        rw [i_cl (show n < 2 ^ 31 by omega), f1 n (by omega)]
        refine e_aload_n dX0_bestNumber_112 rfl 0 rfl ?_
        refine e_getR dX0_bestNumber_113 lkX0_25 tt_111 rfl ?_
        refine e_iload dX0_bestNumber_116 6 rfl ?_
        refine e_iald dX0_bestNumber_118 tt_116 (vp_in_nI (by omega) (by decide)) ?_
        rw [i_cl (show bsF (fun n => ntry p S j d e n) n < 2 ^ 31 by omega), f1 _ (by omega)]
        refine e_icmp_le (t := 126) dX0_bestNumber_119 (by decide) (fun h119 => ?_) (fun h119 => ?_)
        · skip
          skip
          refine e_iinc (nI (n + 1)) [(0, .ref 111), (1, .ref 33), (2, .int (nI j)), (3, .int (nI d)), (4, .int (nI e)), (5, .int (nI (naoth S j))), (6, .int (nI (bsF (fun n => ntry p S j d e n) n))), (7, .int (nI (n + 1)))] dX0_bestNumber_126 7 rfl (nI_1 n) (by decide) rfl ?_
          refine e_goto (t := 95) dX0_bestNumber_129 (by decide) ?_
          have e9 : bsF (fun n => ntry p S j d e n) (n + 1) = bsF (fun n => ntry p S j d e n) n := if_neg (show ¬ ntry p S j d e (bsF (fun n => ntry p S j d e n) n) < ntry p S j d e n from fun q => by have := (i_le (by omega) (by omega)).mp h119; omega)
          have h9 := ih (n + 1) (by omega) (by omega)
          rw [e9] at h9
          exact h9
        · skip
          skip
          refine e_iload dX0_bestNumber_122 7 rfl ?_
          refine e_istore [(0, .ref 111), (1, .ref 33), (2, .int (nI j)), (3, .int (nI d)), (4, .int (nI e)), (5, .int (nI (naoth S j))), (6, .int (nI n)), (7, .int (nI n))] dX0_bestNumber_124 (by decide) rfl ?_
          refine e_iinc (nI (n + 1)) [(0, .ref 111), (1, .ref 33), (2, .int (nI j)), (3, .int (nI d)), (4, .int (nI e)), (5, .int (nI (naoth S j))), (6, .int (nI n)), (7, .int (nI (n + 1)))] dX0_bestNumber_126 7 rfl (nI_1 n) (by decide) rfl ?_
          refine e_goto (t := 95) dX0_bestNumber_129 (by decide) ?_
          have e9 : bsF (fun n => ntry p S j d e n) (n + 1) = n := if_pos (show ntry p S j d e (bsF (fun n => ntry p S j d e n) n) < ntry p S j d e n from by
            have : ¬ ntry p S j d e n ≤ ntry p S j d e (bsF (fun n => ntry p S j d e n) n) := fun q => h119 ((i_le (by omega) (by omega)).mpr q)
            omega)
          have h9 := ih (n + 1) (by omega) (by omega)
          rw [e9] at h9
          exact h9
  have loop2 : ∀ (m t : Nat) (σ1 : ex_S), t + m = naoth S j + 1 → (∀ i, (i < 112 ∨ 116 < i) → σ1 i = σ i) → (∀ n, n < 16 → σ1 116 n = nI (ncnt (TryP p S j d e n) t)) → Ev RX0 cX0_bestNumber 8 8 0 0 "bestNumber" (some .int) ev_ext TT.length (fun v9 T9 σ9 μ9 => T9 = TT ∧ ∃ z9, v9 = some (.int z9) ∧ (fun z' σ' μ' => z' = nI (bsF (fun n => ntry p S j d e n) 16) ∧ (∀ i, (i < 112 ∨ 116 < i) → σ' i = σ i) ∧ μ' = μ) z9 σ9 μ9) 0 0 42 [(0, .ref 111), (1, .ref 33), (2, .int (nI j)), (3, .int (nI d)), (4, .int (nI e)), (5, .int (nI (naoth S j))), (6, .int (nI t))] [] TT σ1 μ := by
    intro m
    induction m with
    | zero =>
      intro t σ1 ht f0 f1
      obtain rfl : t = naoth S j + 1 := by omega
      refine e_iload dX0_bestNumber_42 6 rfl ?_
      refine e_iload dX0_bestNumber_44 5 rfl ?_
      refine e_icmp_gt (t := 89) dX0_bestNumber_46 (by decide) (fun h46 => ?_) (fun h46 => ?_)
      · skip
        refine e_iconst (v := 0) dX0_bestNumber_89 rfl ?_
        refine e_istore [(0, .ref 111), (1, .ref 33), (2, .int (nI j)), (3, .int (nI d)), (4, .int (nI e)), (5, .int (nI (naoth S j))), (6, .int (nI 0))] dX0_bestNumber_90 (by decide) rfl ?_
        refine e_iconst (v := 1) dX0_bestNumber_92 rfl ?_
        refine e_istore [(0, .ref 111), (1, .ref 33), (2, .int (nI j)), (3, .int (nI d)), (4, .int (nI e)), (5, .int (nI (naoth S j))), (6, .int (nI 0)), (7, .int (nI 1))] dX0_bestNumber_93 (by decide) rfl ?_
        have hnt2 : ∀ n, n < 16 → σ1 116 n = nI (ntry p S j d e n) := fun n hn9 => by
          rw [f1 n hn9]
          have := ncnt_up (P := TryP p S j d e n) (s := naoth S j + 1) (2 ^ S 0 0 - (naoth S j + 1)) (fun t h1 h2 q => by
            have ht : t < 2 ^ S 0 0 := by omega
            have h3 := (naoth_iff ht).mpr q.1
            have h4 : t ≤ naoth S j := by rw [← h3]; exact Nat.and_le_right
            omega)
          rw [show naoth S j + 1 + (2 ^ S 0 0 - (naoth S j + 1)) = 2 ^ S 0 0 by omega] at this
          exact congrArg nI this.symm
        have e9 : bsF (fun n => ntry p S j d e n) 1 = 0 := bsF_1 _
        have h9 := loop3 σ1 f0 hnt2 15 1 (by omega) (by omega)
        rw [e9] at h9
        exact h9
      · skip
        exact absurd (show nI (naoth S j) < nI (naoth S j + 1) from (i_lt (by omega) (by omega)).mpr (by omega)) h46
    | succ m ih =>
      intro t σ1 ht f0 f1
      have ht2 : t < 2 ^ S 0 0 := by omega
      have hF1 : FC σ1 p := hF.to (f0 1 (by decide)) (f0 2 (by decide))
      have hC1 : NC σ1 33 S := hC.to hV (fun i h1 h2 => f0 i (by omega))
      refine e_iload dX0_bestNumber_42 6 rfl ?_
      refine e_iload dX0_bestNumber_44 5 rfl ?_
      refine e_icmp_gt (t := 89) dX0_bestNumber_46 (by decide) (fun h46 => ?_) (fun h46 => ?_)
      · skip
        exact absurd ((i_lt (by omega) (by omega)).mp (show nI (naoth S j) < nI t from h46)) (by omega)
      · skip
        refine e_iload dX0_bestNumber_49 6 rfl ?_
        refine e_iload dX0_bestNumber_51 5 rfl ?_
        refine e_iconst (v := (-1)) dX0_bestNumber_53 rfl ?_
        refine e_ixor dX0_bestNumber_54 ?_
        refine e_iand dX0_bestNumber_55 ?_
        rw [not_i _ _ (by omega)]
        refine e_if_ne (t := 83) dX0_bestNumber_56 (by decide) (fun h56 => ?_) (fun h56 => ?_)
        · skip
          skip
          refine e_iinc (nI (t + 1)) [(0, .ref 111), (1, .ref 33), (2, .int (nI j)), (3, .int (nI d)), (4, .int (nI e)), (5, .int (nI (naoth S j))), (6, .int (nI (t + 1)))] dX0_bestNumber_83 6 rfl (nI_1 t) (by decide) rfl ?_
          refine e_goto (t := 42) dX0_bestNumber_86 (by decide) ?_
          have hnb : ¬ t.testBit j = false := fun q => h56 (by rw [(sub_iff t _).mpr ((naoth_iff ht2).mpr q)]; rfl)
          refine ih (t + 1) σ1 (by omega) f0 (fun n hn9 => ?_)
          rw [f1 n hn9, ncnt_f (P := TryP p S j d e n) (fun q => hnb q.1)]
        · skip
          have hbj : t.testBit j = false := (naoth_iff ht2).mp ((sub_iff t _).mp ((i_eq (Nat.lt_of_le_of_lt Nat.and_le_left (by omega)) (by decide)).mp (show nI _ = nI 0 from h56)))
          refine e_iload dX0_bestNumber_59 6 rfl ?_
          refine e_callSi dX0_bestNumber_61 cvX0_35 rfl (cJ_pop (t := t) (by omega)) (Nat.le_of_ble_eq_true rfl) (Nat.le_refl _) (Nat.le_refl _) rfl (Nat.le_of_ble_eq_true rfl) (fun r61 s61 m61 q61 => ?_)
          obtain ⟨q61, e61, g61⟩ := q61
          rw [e61, g61]
          clear e61 g61 s61 m61
          refine e_iload dX0_bestNumber_64 4 rfl ?_
          refine e_icmp_ne (t := 83) dX0_bestNumber_66 (by decide) (fun h66 => ?_) (fun h66 => ?_)
          · skip
            skip
            refine e_iinc (nI (t + 1)) [(0, .ref 111), (1, .ref 33), (2, .int (nI j)), (3, .int (nI d)), (4, .int (nI e)), (5, .int (nI (naoth S j))), (6, .int (nI (t + 1)))] dX0_bestNumber_83 6 rfl (nI_1 t) (by decide) rfl ?_
            refine e_goto (t := 42) dX0_bestNumber_86 (by decide) ?_
            refine ih (t + 1) σ1 (by omega) f0 (fun n hn9 => ?_)
            rw [f1 n hn9, ncnt_f (P := TryP p S j d e n) (fun q => h66 (by rw [q61]; exact congrArg nI q.2.1))]
          · skip
            have hpe : npop t = e := (i_eq (by have := npop_le t; omega) (by omega)).mp (q61.symm.trans h66)
            refine e_aload_n dX0_bestNumber_69 rfl 0 rfl ?_
            refine e_aload_n dX0_bestNumber_70 rfl 1 rfl ?_
            refine e_iload_n dX0_bestNumber_71 rfl 2 rfl ?_
            refine e_iload_n dX0_bestNumber_72 rfl 3 rfl ?_
            refine e_iload dX0_bestNumber_73 5 rfl ?_
            refine e_iload dX0_bestNumber_75 6 rfl ?_
            refine e_iconst (v := (-1)) dX0_bestNumber_77 rfl ?_
            refine e_ixor dX0_bestNumber_78 ?_
            refine e_iand dX0_bestNumber_79 ?_
            rw [not_i _ _ (by omega)]
            refine e_callVv dX0_bestNumber_80 cvX0_41 rfl tt_111 rfl (c0_tryAll hp hV (T := nlft S j t) (c := fun n => ncnt (TryP p S j d e n) t) hj hd5 (Nat.lt_of_le_of_lt Nat.and_le_left (by omega)) (fun n _ => by have := hnt n t; omega) hF1 hC1 f1) (Nat.le_of_ble_eq_true rfl) (Nat.le_refl _) (Nat.le_refl _) rfl (Nat.le_of_ble_eq_true rfl) (fun s80 m80 q80 => ?_)
            obtain ⟨b1, b2, b3⟩ := q80
            rw [b3]
            refine e_iinc (nI (t + 1)) [(0, .ref 111), (1, .ref 33), (2, .int (nI j)), (3, .int (nI d)), (4, .int (nI e)), (5, .int (nI (naoth S j))), (6, .int (nI (t + 1)))] dX0_bestNumber_83 6 rfl (nI_1 t) (by decide) rfl ?_
            refine e_goto (t := 42) dX0_bestNumber_86 (by decide) ?_
            refine ih (t + 1) s80 (by omega) (fun i hi => by rw [b2 i hi]; exact f0 i hi) (fun n hn9 => ?_)
            rw [b1 n hn9]
            by_cases q : TryE p S j d (nlft S j t) n
            · rw [cif_t q, ncnt_t (P := TryP p S j d e n) ⟨hbj, hpe, q⟩]
            · rw [cif_f q, ncnt_f (P := TryP p S j d e n) (fun z => q z.2.2), Nat.add_zero]
  have loop1 : ∀ (m n : Nat) (σ1 : ex_S), n + m = 16 → (∀ i, i ≠ 116 → σ1 i = σ i) → (∀ i, i < n → σ1 116 i = 0) → Ev RX0 cX0_bestNumber 8 8 0 0 "bestNumber" (some .int) ev_ext TT.length (fun v9 T9 σ9 μ9 => T9 = TT ∧ ∃ z9, v9 = some (.int z9) ∧ (fun z' σ' μ' => z' = nI (bsF (fun n => ntry p S j d e n) 16) ∧ (∀ i, (i < 112 ∨ 116 < i) → σ' i = σ i) ∧ μ' = μ) z9 σ9 μ9) 0 0 3 [(0, .ref 111), (1, .ref 33), (2, .int (nI j)), (3, .int (nI d)), (4, .int (nI e)), (5, .int (nI n))] [] TT σ1 μ := by
    intro m
    induction m with
    | zero =>
      intro n σ1 hn9 f0 f1
      obtain rfl : n = 16 := by omega
      refine e_iload dX0_bestNumber_3 5 rfl ?_
      refine e_aload_n dX0_bestNumber_5 rfl 0 rfl ?_
      refine e_getR dX0_bestNumber_6 lkX0_25 tt_111 rfl ?_
      refine e_alen dX0_bestNumber_9 tt_116 (Nat.le_of_ble_eq_true rfl) ?_
      rw [show Int32.ofNat 16 = nI 16 from rfl]
      refine e_icmp_ge (t := 27) dX0_bestNumber_10 (by decide) (fun h10 => ?_) (fun h10 => ?_)
      · skip
        refine e_aload_n dX0_bestNumber_27 rfl 1 rfl ?_
        refine e_callVi dX0_bestNumber_28 cvX0_29 rfl (nodes_0 nodes_33_) rfl (c3_everyoneN nodes_33_ hV (hC.to hV (fun i h1 h2 => f0 i (by omega)))) (Nat.le_of_ble_eq_true rfl) (Nat.le_refl _) (Nat.le_refl _) rfl (Nat.le_of_ble_eq_true rfl) (fun r28 s28 m28 q28 => ?_)
        obtain ⟨q28, e28, g28⟩ := q28
        rw [e28, g28]
        clear e28 g28 s28 m28
        refine e_iconst (v := 1) dX0_bestNumber_31 rfl ?_
        refine e_iload_n dX0_bestNumber_32 rfl 2 rfl ?_
        refine e_ishl dX0_bestNumber_33 ?_
        refine e_iconst (v := (-1)) dX0_bestNumber_34 rfl ?_
        refine e_ixor dX0_bestNumber_35 ?_
        refine e_iand dX0_bestNumber_36 ?_
        rw [q28, i_shl1 (by omega), not_i _ _ (by omega)]
        refine e_istore [(0, .ref 111), (1, .ref 33), (2, .int (nI j)), (3, .int (nI d)), (4, .int (nI e)), (5, .int (nI (naoth S j)))] dX0_bestNumber_37 (by decide) rfl ?_
        refine e_iconst (v := 0) dX0_bestNumber_39 rfl ?_
        refine e_istore [(0, .ref 111), (1, .ref 33), (2, .int (nI j)), (3, .int (nI d)), (4, .int (nI e)), (5, .int (nI (naoth S j))), (6, .int (nI 0))] dX0_bestNumber_40 (by decide) rfl ?_
        exact loop2 (naoth S j + 1) 0 σ1 (by omega) (fun i hi => f0 i (by omega)) (fun n hn9 => f1 n hn9)
      · skip
        exact absurd (show nI 16 ≤ nI 16 from (i_le (by omega) (by omega)).mpr (by omega)) h10
    | succ m ih =>
      intro n σ1 hn9 f0 f1
      refine e_iload dX0_bestNumber_3 5 rfl ?_
      refine e_aload_n dX0_bestNumber_5 rfl 0 rfl ?_
      refine e_getR dX0_bestNumber_6 lkX0_25 tt_111 rfl ?_
      refine e_alen dX0_bestNumber_9 tt_116 (Nat.le_of_ble_eq_true rfl) ?_
      rw [show Int32.ofNat 16 = nI 16 from rfl]
      refine e_icmp_ge (t := 27) dX0_bestNumber_10 (by decide) (fun h10 => ?_) (fun h10 => ?_)
      · skip
        exact absurd ((i_le (by omega) (by omega)).mp (show nI 16 ≤ nI n from h10)) (by omega)
      · skip
        refine e_aload_n dX0_bestNumber_13 rfl 0 rfl ?_
        refine e_getR dX0_bestNumber_14 lkX0_25 tt_111 rfl ?_
        refine e_iload dX0_bestNumber_17 5 rfl ?_
        refine e_iconst (v := 0) dX0_bestNumber_19 rfl ?_
        refine e_iast dX0_bestNumber_20 tt_116 (vp_in_nI (by omega) (by decide)) ?_
        refine e_iinc (nI (n + 1)) [(0, .ref 111), (1, .ref 33), (2, .int (nI j)), (3, .int (nI d)), (4, .int (nI e)), (5, .int (nI (n + 1)))] dX0_bestNumber_21 5 rfl (nI_1 n) (by decide) rfl ?_
        refine e_goto (t := 3) dX0_bestNumber_24 (by decide) ?_
        rw [i_cl (show n < 2 ^ 31 by omega)]
        refine ih (n + 1) _ (by omega) (fun i hi => by rw [sup_obj hi]; exact f0 i hi) (fun i hi => ?_)
        by_cases e : i = n
        · rw [e, sup_same]
        · rw [sup_idx e]
          exact f1 i (by omega)
  refine e_iconst (v := 0) dX0_bestNumber_0 rfl ?_
  refine e_istore [(0, .ref 111), (1, .ref 33), (2, .int (nI j)), (3, .int (nI d)), (4, .int (nI e)), (5, .int (nI 0))] dX0_bestNumber_1 (by decide) rfl ?_
  exact loop1 16 0 σ (by omega) (fun _ _ => rfl) (fun i hi => absurd hi (Nat.not_lt_zero i))

theorem le_4 {q : Int32} (h1 : 0 ≤ q) (h2 : q < 5) : 0 ≤ q ∧ q ≤ 4 := by
  refine ⟨h1, ?_⟩
  rw [Int32.lt_iff_toInt_lt] at h2
  rw [Int32.le_iff_toInt_le]
  have : (5 : Int32).toInt = 5 := by decide
  have : (4 : Int32).toInt = 4 := by decide
  omega
theorem nle_4 {q : Int32} (h2 : ¬ q < 5) : ¬ q ≤ 4 := fun h => by
  rw [Int32.lt_iff_toInt_lt] at h2
  rw [Int32.le_iff_toInt_le] at h
  have : (5 : Int32).toInt = 5 := by decide
  have : (4 : Int32).toInt = 4 := by decide
  omega
theorem best_no {p : Nat} {S : ns_T} {x y e : Int32} (h : ¬ ((0 ≤ x ∧ x < nI (S 0 0)) ∧ S 3 x.toNatClampNeg = 9 ∧ 0 ≤ y ∧ y ≤ 4)) : nbest p S x y e = -1 := cif_f h

set_option maxRecDepth 100000 in
theorem c10_best {p : Nat} (hp : gP p) {S : ns_T} (hV : VS S) {x y e : Int32} {σ : ex_S} {μ : ex_L}(hF : FC σ p) (hC : NC σ 33 S) : Ci 9 yX10_best cX10_best 4 (some .int) [.ref 0, .int x, .int y, .int e] TT σ μ (fun z' σ' μ' => z' = nbest p S x y e ∧ (∀ i, (i < 112 ∨ 116 < i) → σ' i = σ i) ∧ μ' = μ) := by
  refine Cl_of (by decide +kernel) (Nat.le_of_ble_eq_true rfl) ?_
  show Ev RX10 cX10_best 4 9 0 0 "best" (some .int) ev_ext _ _ 0 0 0 [(0, .ref 0), (1, .int x), (2, .int y), (3, .int e)] [] TT σ μ
  have hn := hV.1
  refine e_aload_n dX10_best_0 rfl 0 rfl ?_
  refine e_getR dX10_best_1 lkX10_46 tt_0 rfl ?_
  refine e_getR dX10_best_4 lkX10_89 (store_0 store_32_) rfl ?_
  refine e_iload_n dX10_best_7 rfl 1 rfl ?_
  refine e_callVi dX10_best_8 cvX10_165 rfl (nodes_0 (store_n store_32_)) rfl (c3_hasN nodes_33_ hC x) (Nat.le_of_ble_eq_true rfl) (Nat.le_refl _) (Nat.le_refl _) rfl (Nat.le_of_ble_eq_true rfl) (fun r8 s8 m8 q8 => ?_)
  obtain ⟨q8, e8, g8⟩ := q8
  rw [e8, g8]
  clear e8 g8 s8 m8
  refine e_if_eq (t := 37) dX10_best_11 (by decide) (fun h11 => ?_) (fun h11 => ?_)
  · skip
    rw [q8] at h11
    refine e_iconst (v := (-1)) dX10_best_37 rfl ?_
    refine e_reti dX10_best_38 ev_nwi (Nat.le_refl _) (Nat.le_refl _) ?_
    rw [best_no (fun z => bI_eq0.mp h11 z.1)]
    exact ⟨rfl, fun _ _ => rfl, rfl⟩
  · skip
    rw [q8, bI_eq0] at h11
    have hP := Classical.not_not.mp h11
    obtain ⟨k, hk, rfl⟩ := i_ofl (x := x) (m := S 0 0) (by omega) hP.1 (show _ < nI (S 0 0) from hP.2)
    refine e_aload_n dX10_best_14 rfl 0 rfl ?_
    refine e_getR dX10_best_15 lkX10_46 tt_0 rfl ?_
    refine e_getR dX10_best_18 lkX10_89 (store_0 store_32_) rfl ?_
    refine e_iload_n dX10_best_21 rfl 1 rfl ?_
    refine e_callVi dX10_best_22 cvX10_265 rfl (nodes_0 (store_n store_32_)) rfl (c3_isParity nodes_33_ hV hk hC) (Nat.le_of_ble_eq_true rfl) (Nat.le_refl _) (Nat.le_refl _) rfl (Nat.le_of_ble_eq_true rfl) (fun r22 s22 m22 q22 => ?_)
    obtain ⟨q22, e22, g22⟩ := q22
    rw [e22, g22]
    clear e22 g22 s22 m22
    refine e_if_eq (t := 37) dX10_best_25 (by decide) (fun h25 => ?_) (fun h25 => ?_)
    · skip
      rw [q22] at h25
      refine e_iconst (v := (-1)) dX10_best_37 rfl ?_
      refine e_reti dX10_best_38 ev_nwi (Nat.le_refl _) (Nat.le_refl _) ?_
      rw [best_no (fun z => bI_eq0.mp h25 (by have := z.2.1; rwa [i_cl (show k < 2 ^ 31 by omega)] at this))]
      exact ⟨rfl, fun _ _ => rfl, rfl⟩
    · skip
      rw [q22, bI_eq0] at h25
      have h9 := Classical.not_not.mp h25
      refine e_iload_n dX10_best_28 rfl 2 rfl ?_
      refine e_if_lt (t := 37) dX10_best_29 (by decide) (fun h29 => ?_) (fun h29 => ?_)
      · skip
        skip
        refine e_iconst (v := (-1)) dX10_best_37 rfl ?_
        refine e_reti dX10_best_38 ev_nwi (Nat.le_refl _) (Nat.le_refl _) ?_
        rw [best_no (fun z => nlt_0 h29 z.2.2.1)]
        exact ⟨rfl, fun _ _ => rfl, rfl⟩
      · skip
        refine e_iload_n dX10_best_32 rfl 2 rfl ?_
        refine e_iconst (v := 5) dX10_best_33 rfl ?_
        refine e_icmp_lt (t := 39) dX10_best_34 (by decide) (fun h34 => ?_) (fun h34 => ?_)
        · skip
          have hY := le_4 (fa_of_nlt h29) h34
          refine e_iload_n dX10_best_39 rfl 3 rfl ?_
          refine e_callSi dX10_best_40 cvX10_262 rfl (c10_isSetSize e) (Nat.le_of_ble_eq_true rfl) (Nat.le_refl _) (Nat.le_refl _) rfl (Nat.le_of_ble_eq_true rfl) (fun r40 s40 m40 q40 => ?_)
          obtain ⟨q40, e40, g40⟩ := q40
          rw [e40, g40]
          clear e40 g40 s40 m40
          refine e_if_ne (t := 49) dX10_best_43 (by decide) (fun h43 => ?_) (fun h43 => ?_)
          · skip
            rw [q40, bI_eq0] at h43
            have hW := Classical.not_not.mp h43
            obtain ⟨c, hc, rfl⟩ := i_of (x := y) (m := 4) (by omega) hY.1 (show _ ≤ nI (4) from hY.2)
            obtain ⟨u, hu, rfl⟩ := i_of (x := e) (m := 10) (by omega) hW.1 (show _ ≤ nI (10) from hW.2)
            refine e_aload_n dX10_best_49 rfl 0 rfl ?_
            refine e_getR dX10_best_50 lkX10_74 tt_0 rfl ?_
            refine e_aload_n dX10_best_53 rfl 0 rfl ?_
            refine e_getR dX10_best_54 lkX10_46 tt_0 rfl ?_
            refine e_getR dX10_best_57 lkX10_89 (store_0 store_32_) rfl ?_
            refine e_iload_n dX10_best_60 rfl 1 rfl ?_
            refine e_iload_n dX10_best_61 rfl 2 rfl ?_
            refine e_iload_n dX10_best_62 rfl 3 rfl ?_
            refine e_callVi dX10_best_63 cvX10_268 rfl tt_111 rfl (c0_bestNumber hp hV hk (d := c) (by omega) hu hF hC) (Nat.le_of_ble_eq_true rfl) (Nat.le_refl _) (Nat.le_refl _) rfl (Nat.le_of_ble_eq_true rfl) (fun r63 s63 m63 q63 => ?_)
            obtain ⟨q63, a1, a2⟩ := q63
            rw [a2]
            refine e_reti dX10_best_66 ev_nwi (Nat.le_refl _) (Nat.le_refl _) ?_
            have hr : nbest p S (nI k) (nI c) (nI u) = nI (bsF (fun n => nsafe p (Sf S k c n) u) 16) := by
              unfold nbest
              rw [cif_t (show (0 ≤ nI k ∧ nI k < nI (S 0 0)) ∧ S 3 (nI k).toNatClampNeg = 9 ∧ 0 ≤ nI c ∧ nI c ≤ 4 from ⟨hP, by rw [i_cl (show k < 2 ^ 31 by omega)]; exact h9, hY⟩), cif_t hW, i_cl (show k < 2 ^ 31 by omega), i_cl (show c < 2 ^ 31 by omega), i_cl (show u < 2 ^ 31 by omega)]
            obtain ⟨K, hK9⟩ := try_safe hp hV (e := u) hk h9 (show c < 5 by omega)
            rw [hr, bsF_shift (g := fun n => ntry p S k c u n) (K := K) 16 hK9]
            exact ⟨q63, a1, rfl⟩
          · skip
            rw [q40] at h43
            have h43 := bI_eq0.mp h43
            refine e_bipush (v := (-2)) dX10_best_46 rfl ?_
            refine e_reti dX10_best_48 ev_nwi (Nat.le_refl _) (Nat.le_refl _) ?_
            have hr : nbest p S (nI k) y e = -2 := by
              unfold nbest
              rw [cif_t (show (0 ≤ nI k ∧ nI k < nI (S 0 0)) ∧ S 3 (nI k).toNatClampNeg = 9 ∧ 0 ≤ y ∧ y ≤ 4 from ⟨hP, by rw [i_cl (show k < 2 ^ 31 by omega)]; exact h9, hY⟩), cif_f h43]
            rw [hr]
            exact ⟨rfl, fun _ _ => rfl, rfl⟩
        · skip
          skip
          refine e_iconst (v := (-1)) dX10_best_37 rfl ?_
          refine e_reti dX10_best_38 ev_nwi (Nat.le_refl _) (Nat.le_refl _) ?_
          rw [best_no (fun z => nle_4 h34 z.2.2.2)]
          exact ⟨rfl, fun _ _ => rfl, rfl⟩

set_option maxHeartbeats 1000000 in
set_option maxRecDepth 100000 in
theorem c11_best {p : Nat} (hp : gP p) {S : ns_T} (hV : VS S) {x y e : Int32} {σ : ex_S} {μ : ex_L}(hF : FR σ p) (hR : NR σ S) : Ci 9 yX11_best cX11_best 10 (some .int) [.ref 127, .int x, .int y, .int e] TT σ μ (fun z' σ' μ' => z' = nbest p S x y e ∧ FrM σ σ' ∧ μ' = μ) := by
  refine Cl_of (by decide +kernel) (Nat.le_of_ble_eq_true rfl) ?_
  show Ev RX11 cX11_best 10 9 0 0 "best" (some .int) ev_ext _ _ 0 0 0 [(0, .ref 127), (1, .int x), (2, .int y), (3, .int e)] [] TT σ μ
  have hn := hV.1
  have loop : ∀ (k c u : Nat), nbest p S x y e = nI (bsF (fun n => nsafe p (Sf S k c n) u) 16) → k < S 0 0 → S 3 k = 9 → c < 5 → u ≤ 10 → ∀ (m n : Nat) (mo : Int32) (σ1 : ex_S), n + m = 16 → ((n = 0 ∧ mo = -1) ∨ (1 ≤ n ∧ mo = nI (nsafe p (Sf S k c (bsF (fun n => nsafe p (Sf S k c n) u) n)) u))) → (∀ i, i ≠ 127 → i ≠ 150 → i ≠ 136 → σ1 i = σ i) → (∀ q, q ≠ 35 → σ1 127 q = σ 127 q) → (∀ q, q ≠ 5 * k + c → σ1 136 q = σ 136 q) → Ev RX11 cX11_best 10 9 0 0 "best" (some .int) ev_ext TT.length (fun v9 T9 σ9 μ9 => T9 = TT ∧ ∃ z9, v9 = some (.int z9) ∧ (fun z' σ' μ' => z' = nbest p S x y e ∧ FrM σ σ' ∧ μ' = μ) z9 σ9 μ9) 0 0 68 [(0, .ref 127), (1, .int (nI k)), (2, .int (nI c)), (3, .int (nI u)), (4, .int (nI (5 * k + c))), (5, .int (nI (nib (S 5 k) c))), (6, .int (nI (bsF (fun n => nsafe p (Sf S k c n) u) n))), (7, .int mo), (8, .int (nI n))] [] TT σ1 μ := by
    intro k c u hr hk h9 hc5 hu m
    have hk136 : σ 136 (5 * k + c) = nI (nib (S 5 k) c) := (hR.2.2.2.1 k hk).2.2.2.2.2.1 c hc5
    induction m with
    | zero =>
      intro n mo σ1 hn9 hmo f1 f2 f3
      obtain rfl : n = 16 := by omega
      refine e_iload dX11_best_68 8 rfl ?_
      refine e_bipush (v := 16) dX11_best_70 rfl ?_
      refine e_icmp_ge (t := 116) dX11_best_72 (by decide) (fun h72 => ?_) (fun h72 => ?_)
      · skip
        refine e_aload_n dX11_best_116 rfl 0 rfl ?_
        refine e_getR dX11_best_117 lkX11_36 tt_127 rfl ?_
        refine e_iload dX11_best_120 4 rfl ?_
        refine e_iload dX11_best_122 5 rfl ?_
        refine e_iast dX11_best_124 tt_136 (vp_in_nI (by omega) (by decide)) ?_
        refine e_iload dX11_best_125 6 rfl ?_
        refine e_reti dX11_best_127 ev_nwi (Nat.le_refl _) (Nat.le_refl _) ?_
        rw [hr, i_cl (show 5 * k + c < 2 ^ 31 by omega)]
        refine ⟨rfl, ⟨fun i h1 h2 => ?_, fun q hq => by rw [sup_obj (by decide)]; exact f2 q hq⟩, rfl⟩
        by_cases e : i = 136
        · rw [e]
          funext q
          by_cases e2 : q = 5 * k + c
          · rw [e2, sup_same, hk136]
          · rw [sup_idx e2]
            exact f3 q e2
        · rw [sup_obj e]
          exact f1 i h1 h2 e
      · skip
        exact absurd (show nI 16 ≤ nI 16 from (i_le (by omega) (by omega)).mpr (by omega)) h72
    | succ m ih =>
      intro n mo σ1 hn9 hmo f1 f2 f3
      have hV1 := hV.sf hk h9 hc5 (n := n) (by omega)
      have hsn := nsafe_le hV1 (p := p) u
      refine e_iload dX11_best_68 8 rfl ?_
      refine e_bipush (v := 16) dX11_best_70 rfl ?_
      refine e_icmp_ge (t := 116) dX11_best_72 (by decide) (fun h72 => ?_) (fun h72 => ?_)
      · skip
        exact absurd ((i_le (by omega) (by omega)).mp (show nI 16 ≤ nI n from h72)) (by omega)
      · skip
        refine e_aload_n dX11_best_75 rfl 0 rfl ?_
        refine e_getR dX11_best_76 lkX11_36 tt_127 rfl ?_
        refine e_iload dX11_best_79 4 rfl ?_
        refine e_iload dX11_best_81 8 rfl ?_
        refine e_iast dX11_best_83 tt_136 (vp_in_nI (by omega) (by decide)) ?_
        refine e_aload_n dX11_best_84 rfl 0 rfl ?_
        refine e_iload_n dX11_best_85 rfl 3 rfl ?_
        refine e_iconst (v := 0) dX11_best_86 rfl ?_
        have hF1 : FR (sup σ1 136 (nI (5 * k + c)).toNatClampNeg (nI n)) p := hF.to2 (fun i h1 h2 => by rw [sup_obj (by omega)]; exact f1 i (by omega) (by omega) (by omega)) (fun q hq => by rw [sup_obj (by decide)]; exact f2 q (by omega))
        have hR1 : NR (sup σ1 136 (nI (5 * k + c)).toNatClampNeg (nI n)) (Sf S k c n) := by
          rw [i_cl (show 5 * k + c < 2 ^ 31 by omega)]
          exact hR.sf hk hc5 (by omega) (fun i h1 h2 h3 => by rw [sup_obj h3]; exact f1 i (by omega) (by omega) h3) (fun q h1 h2 => by rw [sup_obj (by decide)]; exact f2 q (by omega)) ⟨sup_same, fun q hq => by rw [sup_idx hq]; exact f3 q hq⟩
        refine e_callVi dX11_best_87 cvX11_235 rfl tt_127 rfl (c11_safeOf hp hV1 (e := u) (by omega) hF1 hR1) (Nat.le_of_ble_eq_true rfl) (Nat.le_refl _) (Nat.le_refl _) rfl (Nat.le_of_ble_eq_true rfl) (fun r87 s87 m87 q87 => ?_)
        obtain ⟨q87, a1, g87⟩ := q87
        rw [g87]
        rw [q87]
        refine e_istore [(0, .ref 127), (1, .int (nI k)), (2, .int (nI c)), (3, .int (nI u)), (4, .int (nI (5 * k + c))), (5, .int (nI (nib (S 5 k) c))), (6, .int (nI (bsF (fun n => nsafe p (Sf S k c n) u) n))), (7, .int mo), (8, .int (nI n)), (9, .int (nI (nsafe p (Sf S k c n) u)))] dX11_best_90 (by decide) rfl ?_
        refine e_iload dX11_best_92 9 rfl ?_
        refine e_iload dX11_best_94 7 rfl ?_
        refine e_icmp_gt (t := 102) dX11_best_96 (by decide) (fun h96 => ?_) (fun h96 => ?_)
        · skip
          skip
          refine e_iload dX11_best_102 9 rfl ?_
          refine e_istore [(0, .ref 127), (1, .int (nI k)), (2, .int (nI c)), (3, .int (nI u)), (4, .int (nI (5 * k + c))), (5, .int (nI (nib (S 5 k) c))), (6, .int (nI (bsF (fun n => nsafe p (Sf S k c n) u) n))), (7, .int (nI (nsafe p (Sf S k c n) u))), (8, .int (nI n)), (9, .int (nI (nsafe p (Sf S k c n) u)))] dX11_best_104 (by decide) rfl ?_
          refine e_iload dX11_best_106 8 rfl ?_
          refine e_istore [(0, .ref 127), (1, .int (nI k)), (2, .int (nI c)), (3, .int (nI u)), (4, .int (nI (5 * k + c))), (5, .int (nI (nib (S 5 k) c))), (6, .int (nI n)), (7, .int (nI (nsafe p (Sf S k c n) u))), (8, .int (nI n)), (9, .int (nI (nsafe p (Sf S k c n) u)))] dX11_best_108 (by decide) rfl ?_
          refine e_iinc (nI (n + 1)) [(0, .ref 127), (1, .int (nI k)), (2, .int (nI c)), (3, .int (nI u)), (4, .int (nI (5 * k + c))), (5, .int (nI (nib (S 5 k) c))), (6, .int (nI n)), (7, .int (nI (nsafe p (Sf S k c n) u))), (8, .int (nI (n + 1))), (9, .int (nI (nsafe p (Sf S k c n) u)))] dX11_best_110 8 rfl (nI_1 n) (by decide) rfl ?_
          refine e_goto (t := 68) dX11_best_113 (by decide) ?_
          refine e_lv [(0, .ref 127), (1, .int (nI k)), (2, .int (nI c)), (3, .int (nI u)), (4, .int (nI (5 * k + c))), (5, .int (nI (nib (S 5 k) c))), (6, .int (nI n)), (7, .int (nI (nsafe p (Sf S k c n) u))), (8, .int (nI (n + 1)))] (List.forall_mem_cons.mpr ⟨List.mem_of_getElem? (i := 0) rfl, List.forall_mem_cons.mpr ⟨List.mem_of_getElem? (i := 1) rfl, List.forall_mem_cons.mpr ⟨List.mem_of_getElem? (i := 2) rfl, List.forall_mem_cons.mpr ⟨List.mem_of_getElem? (i := 3) rfl, List.forall_mem_cons.mpr ⟨List.mem_of_getElem? (i := 4) rfl, List.forall_mem_cons.mpr ⟨List.mem_of_getElem? (i := 5) rfl, List.forall_mem_cons.mpr ⟨List.mem_of_getElem? (i := 6) rfl, List.forall_mem_cons.mpr ⟨List.mem_of_getElem? (i := 7) rfl, List.forall_mem_cons.mpr ⟨List.mem_of_getElem? (i := 8) rfl, fun _ h => absurd h List.not_mem_nil⟩⟩⟩⟩⟩⟩⟩⟩⟩) ?_
          have e9 : bsF (fun n => nsafe p (Sf S k c n) u) (n + 1) = n := by
            rcases hmo with ⟨e, -⟩ | ⟨h1, e⟩
            · subst e
              exact bsF_1 _
            · have hb := bsF_lt (fun n => nsafe p (Sf S k c n) u) n (by omega)
              have hs2 := nsafe_le (hV.sf hk h9 hc5 (n := bsF (fun n => nsafe p (Sf S k c n) u) n) (by omega)) (p := p) u
              rw [e] at h96
              exact if_pos ((i_lt (by omega) (by omega)).mp h96)
          have h9' := ih (n + 1) (nI (nsafe p (Sf S k c n) u)) s87 (by omega) (Or.inr ⟨by omega, by rw [e9]⟩) (fun i h1 h2 h3 => by rw [a1.1 i h1 h2, sup_obj h3]; exact f1 i h1 h2 h3) (fun q hq => by rw [a1.2 q hq, sup_obj (by decide)]; exact f2 q hq) (fun q hq => by rw [a1.1 136 (by decide) (by decide), i_cl (show 5 * k + c < 2 ^ 31 by omega), sup_idx hq]; exact f3 q hq)
          rw [e9] at h9'
          exact h9'
        · skip
          skip
          refine e_goto (t := 110) dX11_best_99 (by decide) ?_
          refine e_iinc (nI (n + 1)) [(0, .ref 127), (1, .int (nI k)), (2, .int (nI c)), (3, .int (nI u)), (4, .int (nI (5 * k + c))), (5, .int (nI (nib (S 5 k) c))), (6, .int (nI (bsF (fun n => nsafe p (Sf S k c n) u) n))), (7, .int mo), (8, .int (nI (n + 1))), (9, .int (nI (nsafe p (Sf S k c n) u)))] dX11_best_110 8 rfl (nI_1 n) (by decide) rfl ?_
          refine e_goto (t := 68) dX11_best_113 (by decide) ?_
          refine e_lv [(0, .ref 127), (1, .int (nI k)), (2, .int (nI c)), (3, .int (nI u)), (4, .int (nI (5 * k + c))), (5, .int (nI (nib (S 5 k) c))), (6, .int (nI (bsF (fun n => nsafe p (Sf S k c n) u) n))), (7, .int mo), (8, .int (nI (n + 1)))] (List.forall_mem_cons.mpr ⟨List.mem_of_getElem? (i := 0) rfl, List.forall_mem_cons.mpr ⟨List.mem_of_getElem? (i := 1) rfl, List.forall_mem_cons.mpr ⟨List.mem_of_getElem? (i := 2) rfl, List.forall_mem_cons.mpr ⟨List.mem_of_getElem? (i := 3) rfl, List.forall_mem_cons.mpr ⟨List.mem_of_getElem? (i := 4) rfl, List.forall_mem_cons.mpr ⟨List.mem_of_getElem? (i := 5) rfl, List.forall_mem_cons.mpr ⟨List.mem_of_getElem? (i := 6) rfl, List.forall_mem_cons.mpr ⟨List.mem_of_getElem? (i := 7) rfl, List.forall_mem_cons.mpr ⟨List.mem_of_getElem? (i := 8) rfl, fun _ h => absurd h List.not_mem_nil⟩⟩⟩⟩⟩⟩⟩⟩⟩) ?_
          have e9 : 1 ≤ n ∧ mo = nI (nsafe p (Sf S k c (bsF (fun n => nsafe p (Sf S k c n) u) n)) u) ∧ bsF (fun n => nsafe p (Sf S k c n) u) (n + 1) = bsF (fun n => nsafe p (Sf S k c n) u) n := by
            rcases hmo with ⟨e, e2⟩ | ⟨h1, e⟩
            · rw [e2] at h96
              exact absurd (fa_trans (show (-1 : Int32) < 0 by decide) (i_nn (by omega))) h96
            · have hb := bsF_lt (fun n => nsafe p (Sf S k c n) u) n (by omega)
              have hs2 := nsafe_le (hV.sf hk h9 hc5 (n := bsF (fun n => nsafe p (Sf S k c n) u) n) (by omega)) (p := p) u
              refine ⟨h1, e, if_neg (fun q => h96 ?_)⟩
              rw [e]
              exact (i_lt (by omega) (by omega)).mpr q
          have h9' := ih (n + 1) mo s87 (by omega) (Or.inr ⟨by omega, by rw [e9.2.2]; exact e9.2.1⟩) (fun i h1 h2 h3 => by rw [a1.1 i h1 h2, sup_obj h3]; exact f1 i h1 h2 h3) (fun q hq => by rw [a1.2 q hq, sup_obj (by decide)]; exact f2 q hq) (fun q hq => by rw [a1.1 136 (by decide) (by decide), i_cl (show 5 * k + c < 2 ^ 31 by omega), sup_idx hq]; exact f3 q hq)
          rw [e9.2.2] at h9'
          exact h9'
  refine e_aload_n dX11_best_0 rfl 0 rfl ?_
  refine e_iload_n dX11_best_1 rfl 1 rfl ?_
  refine e_callVi dX11_best_2 cvX11_169 rfl tt_127 rfl (c11_isOneN hV hR x) (Nat.le_of_ble_eq_true rfl) (Nat.le_refl _) (Nat.le_refl _) rfl (Nat.le_of_ble_eq_true rfl) (fun r2 s2 m2 q2 => ?_)
  obtain ⟨q2, e2, g2⟩ := q2
  rw [e2, g2]
  clear e2 g2 s2 m2
  refine e_if_eq (t := 28) dX11_best_5 (by decide) (fun h5 => ?_) (fun h5 => ?_)
  · skip
    rw [q2] at h5
    refine e_iconst (v := (-1)) dX11_best_28 rfl ?_
    refine e_reti dX11_best_29 ev_nwi (Nat.le_refl _) (Nat.le_refl _) ?_
    rw [best_no (fun z => bI_eq0.mp h5 z.1)]
    exact ⟨rfl, FrM.rf, rfl⟩
  · skip
    rw [q2, bI_eq0] at h5
    have hP := Classical.not_not.mp h5
    obtain ⟨k, hk, rfl⟩ := i_ofl (x := x) (m := S 0 0) (by omega) hP.1 (show _ < nI (S 0 0) from hP.2)
    have u3 := (hR.2.2.2.1 k hk).2.2.1
    have w3 := (hV.2.2.2.2.2.2.1 k hk).2.2.2.2.2.1
    have hd := hV.2.1
    refine e_aload_n dX11_best_8 rfl 0 rfl ?_
    refine e_getR dX11_best_9 lkX11_27 tt_127 rfl ?_
    refine e_iload_n dX11_best_12 rfl 1 rfl ?_
    refine e_iald dX11_best_13 tt_133 (vp_in_nI (by omega) (by decide)) ?_
    rw [i_cl (show k < 2 ^ 31 by omega), u3]
    refine e_bipush (v := (-5)) dX11_best_14 rfl ?_
    refine e_icmp_ne (t := 28) dX11_best_16 (by decide) (fun h16 => ?_) (fun h16 => ?_)
    · skip
      skip
      refine e_iconst (v := (-1)) dX11_best_28 rfl ?_
      refine e_reti dX11_best_29 ev_nwi (Nat.le_refl _) (Nat.le_refl _) ?_
      rw [best_no (fun z => h16 ((wI_9 _ (by omega)).mpr (by have := z.2.1; rwa [i_cl (show k < 2 ^ 31 by omega)] at this)))]
      exact ⟨rfl, FrM.rf, rfl⟩
    · skip
      have h9 := (wI_9 _ (by omega)).mp h16
      refine e_iload_n dX11_best_19 rfl 2 rfl ?_
      refine e_iconst (v := 0) dX11_best_20 rfl ?_
      refine e_iconst (v := 4) dX11_best_21 rfl ?_
      refine e_callSi dX11_best_22 cvX11_99 rfl (c11_within y 0 4) (Nat.le_of_ble_eq_true rfl) (Nat.le_refl _) (Nat.le_refl _) rfl (Nat.le_of_ble_eq_true rfl) (fun r22 s22 m22 q22 => ?_)
      obtain ⟨q22, e22, g22⟩ := q22
      rw [e22, g22]
      clear e22 g22 s22 m22
      refine e_if_ne (t := 30) dX11_best_25 (by decide) (fun h25 => ?_) (fun h25 => ?_)
      · skip
        rw [q22, bI_eq0] at h25
        have hY := Classical.not_not.mp h25
        refine e_iload_n dX11_best_30 rfl 3 rfl ?_
        refine e_iconst (v := 0) dX11_best_31 rfl ?_
        refine e_bipush (v := 10) dX11_best_32 rfl ?_
        refine e_callSi dX11_best_34 cvX11_99 rfl (c11_within e 0 10) (Nat.le_of_ble_eq_true rfl) (Nat.le_refl _) (Nat.le_refl _) rfl (Nat.le_of_ble_eq_true rfl) (fun r34 s34 m34 q34 => ?_)
        obtain ⟨q34, e34, g34⟩ := q34
        rw [e34, g34]
        clear e34 g34 s34 m34
        refine e_if_ne (t := 43) dX11_best_37 (by decide) (fun h37 => ?_) (fun h37 => ?_)
        · skip
          rw [q34, bI_eq0] at h37
          have hW := Classical.not_not.mp h37
          obtain ⟨c, hc, rfl⟩ := i_of (x := y) (m := 4) (by omega) hY.1 (show _ ≤ nI (4) from hY.2)
          obtain ⟨u, hu, rfl⟩ := i_of (x := e) (m := 10) (by omega) hW.1 (show _ ≤ nI (10) from hW.2)
          refine e_iconst (v := 5) dX11_best_43 rfl ?_
          refine e_iload_n dX11_best_44 rfl 1 rfl ?_
          refine e_imul dX11_best_45 ?_
          refine e_iload_n dX11_best_46 rfl 2 rfl ?_
          refine e_iadd dX11_best_47 ?_
          rw [i_lin5]
          refine e_istore [(0, .ref 127), (1, .int (nI k)), (2, .int (nI c)), (3, .int (nI u)), (4, .int (nI (5 * k + c)))] dX11_best_48 (by decide) rfl ?_
          refine e_aload_n dX11_best_50 rfl 0 rfl ?_
          refine e_getR dX11_best_51 lkX11_36 tt_127 rfl ?_
          refine e_iload dX11_best_54 4 rfl ?_
          refine e_iald dX11_best_56 tt_136 (vp_in_nI (by omega) (by decide)) ?_
          rw [i_cl (show 5 * k + c < 2 ^ 31 by omega), (hR.2.2.2.1 k hk).2.2.2.2.2.1 c (by omega)]
          refine e_istore [(0, .ref 127), (1, .int (nI k)), (2, .int (nI c)), (3, .int (nI u)), (4, .int (nI (5 * k + c))), (5, .int (nI (nib (S 5 k) c)))] dX11_best_57 (by decide) rfl ?_
          refine e_iconst (v := 0) dX11_best_59 rfl ?_
          refine e_istore [(0, .ref 127), (1, .int (nI k)), (2, .int (nI c)), (3, .int (nI u)), (4, .int (nI (5 * k + c))), (5, .int (nI (nib (S 5 k) c))), (6, .int (nI (bsF (fun n => nsafe p (Sf S k c n) u) 0)))] dX11_best_60 (by decide) rfl ?_
          refine e_iconst (v := (-1)) dX11_best_62 rfl ?_
          refine e_istore [(0, .ref 127), (1, .int (nI k)), (2, .int (nI c)), (3, .int (nI u)), (4, .int (nI (5 * k + c))), (5, .int (nI (nib (S 5 k) c))), (6, .int (nI (bsF (fun n => nsafe p (Sf S k c n) u) 0))), (7, .int (-1))] dX11_best_63 (by decide) rfl ?_
          refine e_iconst (v := 0) dX11_best_65 rfl ?_
          refine e_istore [(0, .ref 127), (1, .int (nI k)), (2, .int (nI c)), (3, .int (nI u)), (4, .int (nI (5 * k + c))), (5, .int (nI (nib (S 5 k) c))), (6, .int (nI (bsF (fun n => nsafe p (Sf S k c n) u) 0))), (7, .int (-1)), (8, .int (nI 0))] dX11_best_66 (by decide) rfl ?_
          have hr : nbest p S (nI k) (nI c) (nI u) = nI (bsF (fun n => nsafe p (Sf S k c n) u) 16) := by
            unfold nbest
            rw [cif_t (show (0 ≤ nI k ∧ nI k < nI (S 0 0)) ∧ S 3 (nI k).toNatClampNeg = 9 ∧ 0 ≤ nI c ∧ nI c ≤ 4 from ⟨hP, by rw [i_cl (show k < 2 ^ 31 by omega)]; exact h9, hY⟩), cif_t hW, i_cl (show k < 2 ^ 31 by omega), i_cl (show c < 2 ^ 31 by omega), i_cl (show u < 2 ^ 31 by omega)]
          exact loop k c u hr hk h9 (by omega) hu 16 0 (-1) σ (by omega) (Or.inl ⟨rfl, rfl⟩) (fun _ _ _ _ => rfl) (fun _ _ => rfl) (fun _ _ => rfl)
        · skip
          rw [q34] at h37
          have h37 := bI_eq0.mp h37
          refine e_bipush (v := (-2)) dX11_best_40 rfl ?_
          refine e_reti dX11_best_42 ev_nwi (Nat.le_refl _) (Nat.le_refl _) ?_
          have hr : nbest p S (nI k) y e = -2 := by
            unfold nbest
            rw [cif_t (show (0 ≤ nI k ∧ nI k < nI (S 0 0)) ∧ S 3 (nI k).toNatClampNeg = 9 ∧ 0 ≤ y ∧ y ≤ 4 from ⟨hP, by rw [i_cl (show k < 2 ^ 31 by omega)]; exact h9, hY⟩), cif_f h37]
          rw [hr]
          exact ⟨rfl, FrM.rf, rfl⟩
      · skip
        rw [q22] at h25
        refine e_iconst (v := (-1)) dX11_best_28 rfl ?_
        refine e_reti dX11_best_29 ev_nwi (Nat.le_refl _) (Nat.le_refl _) ?_
        rw [best_no (fun z => bI_eq0.mp h25 z.2.2)]
        exact ⟨rfl, FrM.rf, rfl⟩
