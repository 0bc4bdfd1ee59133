theorem cpyq {f g : Nat → Int32} {q : Int32} {z k : Nat} (hz : q.toNatClampNeg = z) (hk : k < z) : va_cpy f g (0 : Int32).toNatClampNeg (0 : Int32).toNatClampNeg q.toNatClampNeg k = f k := by
  rw [hz, show (0 : Int32).toNatClampNeg = 0 from by decide, pk_cpy_in (Nat.zero_le k) (by omega), show 0 + (k - 0) = k by omega]

set_option maxRecDepth 100000 in
theorem c5_copyFrom {N b o z : Nat} (hB : PairsAt N b) (hO : PairsAt N o) (hN : N ≤ 10) (hd : b + 2 < o ∨ o + 2 < b) {σ : ex_S} {μ : ex_L}(hz : σ o 2 = nI z) (hz2 : z ≤ N) : Cv 4 yX5_copyFrom cX5_copyFrom 3 none [.ref b, .ref o] TT σ μ (fun σ' μ' => (∀ S t, S t 0 = z → PG σ o S t → PG σ' b S t) ∧ (∀ i, i ≠ b → i ≠ b + 1 → i ≠ b + 2 → σ' i = σ i) ∧ μ' = μ) := by
  refine Cl_of (by decide +kernel) (Nat.le_of_ble_eq_true rfl) ?_
  show Ev RX5 cX5_copyFrom 3 4 0 0 "copyFrom" none ev_ext _ _ 0 0 0 [(0, .ref b), (1, .ref o)] [] TT σ μ
  refine e_aload_n dX5_copyFrom_0 rfl 1 rfl ?_
  refine e_getI dX5_copyFrom_1 lkX5_22 (pairs_0 hO) rfl ?_
  refine e_aload_n dX5_copyFrom_4 rfl 0 rfl ?_
  refine e_getR dX5_copyFrom_5 lkX5_13 (pairs_0 hB) rfl ?_
  refine e_alen dX5_copyFrom_8 (pairs_1 hB) (Nat.le_of_ble_eq_true rfl) ?_
  refine e_mmin dX5_copyFrom_9 cvX5_26 (Nat.le_of_ble_eq_true rfl) (Nat.le_of_ble_eq_true rfl) (Nat.le_refl _) (Nat.le_refl _) ?_
  rw [hz, show Int32.ofNat N = nI N from rfl, i_min (by omega) (by omega), Nat.min_eq_left hz2]
  refine e_istore_n [(0, .ref b), (1, .ref o), (2, .int (nI z))] dX5_copyFrom_12 rfl (by decide) rfl ?_
  refine e_aload_n dX5_copyFrom_13 rfl 1 rfl ?_
  refine e_getR dX5_copyFrom_14 lkX5_13 (pairs_0 hO) rfl ?_
  refine e_iconst (v := 0) dX5_copyFrom_17 rfl ?_
  refine e_aload_n dX5_copyFrom_18 rfl 0 rfl ?_
  refine e_getR dX5_copyFrom_19 lkX5_13 (pairs_0 hB) rfl ?_
  refine e_iconst (v := 0) dX5_copyFrom_22 rfl ?_
  refine e_iload_n dX5_copyFrom_23 rfl 2 rfl ?_
  refine e_acopy dX5_copyFrom_24 kaX5_29 (pairs_1 hO) (pairs_1 hB) (by decide) (by decide) (Int32.not_lt.mpr (i_nn (by omega))) (by rw [i_cl (by omega), show (0 : Int32).toNatClampNeg = 0 from by decide]; omega) (by rw [i_cl (by omega), show (0 : Int32).toNatClampNeg = 0 from by decide]; omega) (Nat.le_of_ble_eq_true rfl) (Nat.le_of_ble_eq_true rfl) ?_
  refine e_aload_n dX5_copyFrom_27 rfl 1 rfl ?_
  refine e_getR dX5_copyFrom_28 lkX5_19 (pairs_0 hO) rfl ?_
  refine e_iconst (v := 0) dX5_copyFrom_31 rfl ?_
  refine e_aload_n dX5_copyFrom_32 rfl 0 rfl ?_
  refine e_getR dX5_copyFrom_33 lkX5_19 (pairs_0 hB) rfl ?_
  refine e_iconst (v := 0) dX5_copyFrom_36 rfl ?_
  refine e_iload_n dX5_copyFrom_37 rfl 2 rfl ?_
  refine e_acopy dX5_copyFrom_38 kaX5_29 (pairs_2 hO) (pairs_2 hB) (by decide) (by decide) (Int32.not_lt.mpr (i_nn (by omega))) (by rw [i_cl (by omega), show (0 : Int32).toNatClampNeg = 0 from by decide]; omega) (by rw [i_cl (by omega), show (0 : Int32).toNatClampNeg = 0 from by decide]; omega) (Nat.le_of_ble_eq_true rfl) (Nat.le_of_ble_eq_true rfl) ?_
  refine e_aload_n dX5_copyFrom_41 rfl 0 rfl ?_
  refine e_iload_n dX5_copyFrom_42 rfl 2 rfl ?_
  refine e_putI dX5_copyFrom_43 lkX5_22' (pairs_0 hB) rfl rfl rfl ?_
  refine e_retv dX5_copyFrom_46 (Nat.le_refl _) (Nat.le_refl _) ?_
  have hcl : (nI z).toNatClampNeg = z := i_cl (by omega)
  refine ⟨fun S t hS hG => ⟨by rw [sup_same, hS], fun i hi => ⟨?_, ?_⟩⟩, fun i g1 g2 g3 => by rw [sup_obj g1, srow_obj g3, srow_obj g2], rfl⟩
  · rw [sup_obj (by omega), srow_obj (by omega), srow_same, cpyq hcl (by omega)]
    exact (hG.2 i hi).1
  · rw [sup_obj (by omega), srow_same, cpyq hcl (by omega), srow_obj (by omega)]
    exact (hG.2 i hi).2

def NCp (σ σ1 : ex_S) (b o n : Nat) : Prop := (∀ x, (x < b ∨ b + 19 ≤ x) → σ1 x = σ x) ∧ (∀ k, k < 4 → σ1 b k = σ o k) ∧ (∀ j, j < 10 → σ1 (b + 1) j = σ (o + 1) j) ∧ (∀ j, j < 10 → σ1 (b + 2) j = σ (o + 2) j) ∧ (∀ j, j < 10 → σ1 (b + 3) j = σ (o + 3) j) ∧ (∀ j, j < 10 → σ1 (b + 4) j = σ (o + 4) j) ∧ (∀ j, j < 10 → σ1 (b + 5) j = σ (o + 5) j) ∧ ∀ j, j < n → ∀ q, q < 4 → σ1 (b + 7 + j) q = σ (o + 7 + j) q
theorem lt4c {k : Nat} (h : k < 4) : k = 0 ∨ k = 1 ∨ k = 2 ∨ k = 3 := by omega

set_option maxRecDepth 100000 in
theorem c3_copyFrom {b o : Nat} (hB : NodesAt b) (hO : NodesAt o) (hd : b + 19 ≤ o ∨ o + 19 ≤ b) {σ : ex_S} {μ : ex_L} : Cv 3 yX3_copyFrom cX3_copyFrom 3 none [.ref b, .ref o] TT σ μ (fun σ' μ' => (∀ S, VS S → NC σ o S → NC σ' b S) ∧ (∀ i, (i < b ∨ b + 19 ≤ i) → σ' i = σ i) ∧ μ' = μ) := by
  refine Cl_of (by decide +kernel) (Nat.le_of_ble_eq_true rfl) ?_
  show Ev RX3 cX3_copyFrom 3 3 0 0 "copyFrom" none ev_ext _ _ 0 0 0 [(0, .ref b), (1, .ref o)] [] TT σ μ
  have loop : ∀ (m i : Nat) (σ1 : ex_S), i + m = 10 → NCp σ σ1 b o i → Ev RX3 cX3_copyFrom 3 3 0 0 "copyFrom" none ev_ext TT.length (fun v9 T9 σ9 μ9 => T9 = TT ∧ v9 = none ∧ (fun σ' μ' => (∀ S, VS S → NC σ o S → NC σ' b S) ∧ (∀ i, (i < b ∨ b + 19 ≤ i) → σ' i = σ i) ∧ μ' = μ) σ9 μ9) 0 0 109 [(0, .ref b), (1, .ref o), (2, .int (nI i))] [] TT σ1 μ := by
    intro m
    induction m with
    | zero =>
      intro i σ1 hi hc
      obtain rfl : i = 10 := by omega
      refine e_iload_n dX3_copyFrom_109 rfl 2 rfl ?_
      refine e_bipush (v := 10) dX3_copyFrom_110 rfl ?_
      refine e_icmp_ge (t := 139) dX3_copyFrom_112 (by decide) (fun h112 => ?_) (fun h112 => ?_)
      · skip
        refine e_aload_n dX3_copyFrom_139 rfl 1 rfl ?_
        refine e_getR dX3_copyFrom_140 lkX3_45 (nodes_0 hO) rfl ?_
        refine e_iconst (v := 0) dX3_copyFrom_143 rfl ?_
        refine e_aload_n dX3_copyFrom_144 rfl 0 rfl ?_
        refine e_getR dX3_copyFrom_145 lkX3_45 (nodes_0 hB) rfl ?_
        refine e_iconst (v := 0) dX3_copyFrom_148 rfl ?_
        refine e_iconst (v := 5) dX3_copyFrom_149 rfl ?_
        refine e_acopy dX3_copyFrom_150 kaX3_51 (nodes_17 hO) (nodes_17 hB) (by decide) (by decide) (by decide) (by decide) (by decide) (Nat.le_of_ble_eq_true rfl) (Nat.le_of_ble_eq_true rfl) ?_
        refine e_aload_n dX3_copyFrom_153 rfl 1 rfl ?_
        refine e_getR dX3_copyFrom_154 lkX3_48 (nodes_0 hO) rfl ?_
        refine e_iconst (v := 0) dX3_copyFrom_157 rfl ?_
        refine e_aload_n dX3_copyFrom_158 rfl 0 rfl ?_
        refine e_getR dX3_copyFrom_159 lkX3_48 (nodes_0 hB) rfl ?_
        refine e_iconst (v := 0) dX3_copyFrom_162 rfl ?_
        refine e_iconst (v := 5) dX3_copyFrom_163 rfl ?_
        refine e_acopy dX3_copyFrom_164 kaX3_51 (nodes_18 hO) (nodes_18 hB) (by decide) (by decide) (by decide) (by decide) (by decide) (Nat.le_of_ble_eq_true rfl) (Nat.le_of_ble_eq_true rfl) ?_
        refine e_retv dX3_copyFrom_167 (Nat.le_refl _) (Nat.le_refl _) ?_
        obtain ⟨c1, c2, c3, c4, c5, c6, c7, c8⟩ := hc
        refine ⟨fun S hV hC => ?_, fun i hi => by rw [srow_obj (by omega), srow_obj (by omega)]; exact c1 i hi, rfl⟩
        have h5 : (5 : Int32).toNatClampNeg = 5 := by decide
        obtain ⟨n1, n2, n3, n4, n5, n6⟩ := hC
        have hn := hV.1
        have hdd := hV.2.1
        have g0 : ∀ x, x ≠ b + 17 → x ≠ b + 18 → srow (srow σ1 (b + 17) (va_cpy (σ1 (o + 17)) (σ1 (b + 17)) (0 : Int32).toNatClampNeg (0 : Int32).toNatClampNeg (5 : Int32).toNatClampNeg)) (b + 18) (va_cpy (srow σ1 (b + 17) (va_cpy (σ1 (o + 17)) (σ1 (b + 17)) (0 : Int32).toNatClampNeg (0 : Int32).toNatClampNeg (5 : Int32).toNatClampNeg) (o + 18)) (srow σ1 (b + 17) (va_cpy (σ1 (o + 17)) (σ1 (b + 17)) (0 : Int32).toNatClampNeg (0 : Int32).toNatClampNeg (5 : Int32).toNatClampNeg) (b + 18)) (0 : Int32).toNatClampNeg (0 : Int32).toNatClampNeg (5 : Int32).toNatClampNeg) x = σ1 x := fun x h1 h2 => by rw [srow_obj h2, srow_obj h1]
        refine ⟨by rw [g0 b (by omega) (by omega), c2 0 (by decide)]; exact n1, by rw [g0 b (by omega) (by omega), c2 1 (by decide)]; exact n2, by rw [g0 b (by omega) (by omega), c2 2 (by decide)]; exact n3, by rw [g0 b (by omega) (by omega), c2 3 (by decide)]; exact n4, fun j hj => ?_, fun e he => ?_⟩
        · obtain ⟨a1, a2, a3, a4, a5, a6⟩ := n5 j hj
          rw [g0 (b + 1) (by omega) (by omega), g0 (b + 2) (by omega) (by omega), g0 (b + 3) (by omega) (by omega), g0 (b + 4) (by omega) (by omega), g0 (b + 5) (by omega) (by omega), c3 j (by omega), c4 j (by omega), c5 j (by omega), c6 j (by omega), c7 j (by omega)]
          exact ⟨a1, a2, a3, a4, a5, fun q hq => by rw [g0 (b + 7 + j) (by omega) (by omega), c8 j (by omega) q hq]; exact a6 q hq⟩
        · obtain ⟨a1, a2⟩ := n6 e he
          refine ⟨?_, ?_⟩
          · rw [srow_obj (by omega), srow_same, cpyq h5 (by omega), c1 _ (by omega)]
            exact a1
          · rw [srow_same, cpyq h5 (by omega), srow_obj (by omega), c1 _ (by omega)]
            exact a2
      · skip
        exact absurd (show nI 10 ≤ nI 10 from (i_le (by omega) (by omega)).mpr (by omega)) h112
    | succ m ih =>
      intro i σ1 hi hc
      refine e_iload_n dX3_copyFrom_109 rfl 2 rfl ?_
      refine e_bipush (v := 10) dX3_copyFrom_110 rfl ?_
      refine e_icmp_ge (t := 139) dX3_copyFrom_112 (by decide) (fun h112 => ?_) (fun h112 => ?_)
      · skip
        exact absurd ((i_le (by omega) (by omega)).mp (show nI 10 ≤ nI i from h112)) (by omega)
      · skip
        refine e_aload_n dX3_copyFrom_115 rfl 1 rfl ?_
        refine e_getR dX3_copyFrom_116 lkX3_42 (nodes_0 hO) rfl ?_
        refine e_iload_n dX3_copyFrom_119 rfl 2 rfl ?_
        refine e_aald dX3_copyFrom_120 (nodes_6 hO) (Or.inl rfl) (vp_in_nI (by omega) (by decide)) (by rw [i_cl (by omega)]; exact nodes_rowAt o (by omega)) ?_
        refine e_iconst (v := 0) dX3_copyFrom_121 rfl ?_
        refine e_aload_n dX3_copyFrom_122 rfl 0 rfl ?_
        refine e_getR dX3_copyFrom_123 lkX3_42 (nodes_0 hB) rfl ?_
        refine e_iload_n dX3_copyFrom_126 rfl 2 rfl ?_
        refine e_aald dX3_copyFrom_127 (nodes_6 hB) (Or.inl rfl) (vp_in_nI (by omega) (by decide)) (by rw [i_cl (by omega)]; exact nodes_rowAt b (by omega)) ?_
        refine e_iconst (v := 0) dX3_copyFrom_128 rfl ?_
        refine e_iconst (v := 4) dX3_copyFrom_129 rfl ?_
        refine e_acopy dX3_copyFrom_130 kaX3_51 (nodes_row hO (show i < 10 by omega)) (nodes_row hB (show i < 10 by omega)) (by decide) (by decide) (by decide) (by decide) (by decide) (Nat.le_of_ble_eq_true rfl) (Nat.le_of_ble_eq_true rfl) ?_
        refine e_iinc (nI (i + 1)) [(0, .ref b), (1, .ref o), (2, .int (nI (i + 1)))] dX3_copyFrom_133 2 rfl (nI_1 i) (by decide) rfl ?_
        refine e_goto (t := 109) dX3_copyFrom_136 (by decide) ?_
        obtain ⟨c1, c2, c3, c4, c5, c6, c7, c8⟩ := hc
        refine ih (i + 1) _ (by omega) ⟨fun x hx => by rw [srow_obj (by omega)]; exact c1 x hx, fun k hk => by rw [srow_obj (by omega)]; exact c2 k hk, fun j hj => by rw [srow_obj (by omega)]; exact c3 j hj, fun j hj => by rw [srow_obj (by omega)]; exact c4 j hj, fun j hj => by rw [srow_obj (by omega)]; exact c5 j hj, fun j hj => by rw [srow_obj (by omega)]; exact c6 j hj, fun j hj => by rw [srow_obj (by omega)]; exact c7 j hj, fun j hj q hq => ?_⟩
        by_cases e : j = i
        · subst e
          rw [srow_same, cpyq (show (4 : Int32).toNatClampNeg = 4 by decide) hq, c1 _ (by omega)]
        · rw [srow_obj (by omega)]
          exact c8 j (by omega) q hq
  refine e_aload_n dX3_copyFrom_0 rfl 0 rfl ?_
  refine e_aload_n dX3_copyFrom_1 rfl 1 rfl ?_
  refine e_getI dX3_copyFrom_2 lkX3_9 (nodes_0 hO) rfl ?_
  refine e_putI dX3_copyFrom_5 lkX3_9' (nodes_0 hB) rfl rfl rfl ?_
  refine e_aload_n dX3_copyFrom_8 rfl 0 rfl ?_
  refine e_aload_n dX3_copyFrom_9 rfl 1 rfl ?_
  refine e_getI dX3_copyFrom_10 lkX3_15 (nodes_0 hO) rfl ?_
  refine e_putI dX3_copyFrom_13 lkX3_15' (nodes_0 hB) rfl rfl rfl ?_
  refine e_aload_n dX3_copyFrom_16 rfl 0 rfl ?_
  refine e_aload_n dX3_copyFrom_17 rfl 1 rfl ?_
  refine e_getI dX3_copyFrom_18 lkX3_18 (nodes_0 hO) rfl ?_
  refine e_putI dX3_copyFrom_21 lkX3_18' (nodes_0 hB) rfl rfl rfl ?_
  refine e_aload_n dX3_copyFrom_24 rfl 0 rfl ?_
  refine e_aload_n dX3_copyFrom_25 rfl 1 rfl ?_
  refine e_getI dX3_copyFrom_26 lkX3_21 (nodes_0 hO) rfl ?_
  refine e_putI dX3_copyFrom_29 lkX3_21' (nodes_0 hB) rfl rfl rfl ?_
  refine e_aload_n dX3_copyFrom_32 rfl 1 rfl ?_
  refine e_getR dX3_copyFrom_33 lkX3_24 (nodes_0 hO) rfl ?_
  refine e_iconst (v := 0) dX3_copyFrom_36 rfl ?_
  refine e_aload_n dX3_copyFrom_37 rfl 0 rfl ?_
  refine e_getR dX3_copyFrom_38 lkX3_24 (nodes_0 hB) rfl ?_
  refine e_iconst (v := 0) dX3_copyFrom_41 rfl ?_
  refine e_bipush (v := 10) dX3_copyFrom_42 rfl ?_
  refine e_acopy dX3_copyFrom_44 kaX3_51 (nodes_1 hO) (nodes_1 hB) (by decide) (by decide) (by decide) (by decide) (by decide) (Nat.le_of_ble_eq_true rfl) (Nat.le_of_ble_eq_true rfl) ?_
  refine e_aload_n dX3_copyFrom_47 rfl 1 rfl ?_
  refine e_getR dX3_copyFrom_48 lkX3_28 (nodes_0 hO) rfl ?_
  refine e_iconst (v := 0) dX3_copyFrom_51 rfl ?_
  refine e_aload_n dX3_copyFrom_52 rfl 0 rfl ?_
  refine e_getR dX3_copyFrom_53 lkX3_28 (nodes_0 hB) rfl ?_
  refine e_iconst (v := 0) dX3_copyFrom_56 rfl ?_
  refine e_bipush (v := 10) dX3_copyFrom_57 rfl ?_
  refine e_acopy dX3_copyFrom_59 kaX3_51 (nodes_2 hO) (nodes_2 hB) (by decide) (by decide) (by decide) (by decide) (by decide) (Nat.le_of_ble_eq_true rfl) (Nat.le_of_ble_eq_true rfl) ?_
  refine e_aload_n dX3_copyFrom_62 rfl 1 rfl ?_
  refine e_getR dX3_copyFrom_63 lkX3_31 (nodes_0 hO) rfl ?_
  refine e_iconst (v := 0) dX3_copyFrom_66 rfl ?_
  refine e_aload_n dX3_copyFrom_67 rfl 0 rfl ?_
  refine e_getR dX3_copyFrom_68 lkX3_31 (nodes_0 hB) rfl ?_
  refine e_iconst (v := 0) dX3_copyFrom_71 rfl ?_
  refine e_bipush (v := 10) dX3_copyFrom_72 rfl ?_
  refine e_acopy dX3_copyFrom_74 kaX3_51 (nodes_3 hO) (nodes_3 hB) (by decide) (by decide) (by decide) (by decide) (by decide) (Nat.le_of_ble_eq_true rfl) (Nat.le_of_ble_eq_true rfl) ?_
  refine e_aload_n dX3_copyFrom_77 rfl 1 rfl ?_
  refine e_getR dX3_copyFrom_78 lkX3_34 (nodes_0 hO) rfl ?_
  refine e_iconst (v := 0) dX3_copyFrom_81 rfl ?_
  refine e_aload_n dX3_copyFrom_82 rfl 0 rfl ?_
  refine e_getR dX3_copyFrom_83 lkX3_34 (nodes_0 hB) rfl ?_
  refine e_iconst (v := 0) dX3_copyFrom_86 rfl ?_
  refine e_bipush (v := 10) dX3_copyFrom_87 rfl ?_
  refine e_acopy dX3_copyFrom_89 kaX3_51 (nodes_4 hO) (nodes_4 hB) (by decide) (by decide) (by decide) (by decide) (by decide) (Nat.le_of_ble_eq_true rfl) (Nat.le_of_ble_eq_true rfl) ?_
  refine e_aload_n dX3_copyFrom_92 rfl 1 rfl ?_
  refine e_getR dX3_copyFrom_93 lkX3_37 (nodes_0 hO) rfl ?_
  refine e_iconst (v := 0) dX3_copyFrom_96 rfl ?_
  refine e_aload_n dX3_copyFrom_97 rfl 0 rfl ?_
  refine e_getR dX3_copyFrom_98 lkX3_37 (nodes_0 hB) rfl ?_
  refine e_iconst (v := 0) dX3_copyFrom_101 rfl ?_
  refine e_bipush (v := 10) dX3_copyFrom_102 rfl ?_
  refine e_acopy dX3_copyFrom_104 kaX3_51 (nodes_5 hO) (nodes_5 hB) (by decide) (by decide) (by decide) (by decide) (by decide) (Nat.le_of_ble_eq_true rfl) (Nat.le_of_ble_eq_true rfl) ?_
  refine e_iconst (v := 0) dX3_copyFrom_107 rfl ?_
  refine e_istore_n [(0, .ref b), (1, .ref o), (2, .int (nI 0))] dX3_copyFrom_108 rfl (by decide) rfl ?_
  have e10 : (10 : Int32).toNatClampNeg = 10 := by decide
  refine loop 10 0 _ (by omega) ⟨fun x hx => ?_, fun k hk => ?_, fun j hj => ?_, fun j hj => ?_, fun j hj => ?_, fun j hj => ?_, fun j hj => ?_, fun j hj => absurd hj (by omega)⟩
  · rw [srow_obj (by omega), srow_obj (by omega), srow_obj (by omega), srow_obj (by omega), srow_obj (by omega), sup_obj (by omega), sup_obj (by omega), sup_obj (by omega), sup_obj (by omega)]
  · rw [srow_obj (by omega), srow_obj (by omega), srow_obj (by omega), srow_obj (by omega), srow_obj (by omega)]
    rcases lt4c hk with rfl | rfl | rfl | rfl
    · rw [sup_idx (by decide), sup_idx (by decide), sup_idx (by decide), sup_same]
    · rw [sup_idx (by decide), sup_idx (by decide), sup_same, sup_obj (by omega)]
    · rw [sup_idx (by decide), sup_same, sup_obj (by omega), sup_obj (by omega)]
    · rw [sup_same, sup_obj (by omega), sup_obj (by omega), sup_obj (by omega)]
  · rw [srow_obj (by omega), srow_obj (by omega), srow_obj (by omega), srow_obj (by omega), srow_same, cpyq e10 hj, sup_obj (by omega), sup_obj (by omega), sup_obj (by omega), sup_obj (by omega)]
  · rw [srow_obj (by omega), srow_obj (by omega), srow_obj (by omega), srow_same, cpyq e10 hj, srow_obj (by omega), sup_obj (by omega), sup_obj (by omega), sup_obj (by omega), sup_obj (by omega)]
  · rw [srow_obj (by omega), srow_obj (by omega), srow_same, cpyq e10 hj, srow_obj (by omega), srow_obj (by omega), sup_obj (by omega), sup_obj (by omega), sup_obj (by omega), sup_obj (by omega)]
  · rw [srow_obj (by omega), srow_same, cpyq e10 hj, srow_obj (by omega), srow_obj (by omega), srow_obj (by omega), sup_obj (by omega), sup_obj (by omega), sup_obj (by omega), sup_obj (by omega)]
  · rw [srow_same, cpyq e10 hj, srow_obj (by omega), srow_obj (by omega), srow_obj (by omega), srow_obj (by omega), sup_obj (by omega), sup_obj (by omega), sup_obj (by omega), sup_obj (by omega)]

/-- all that THE IMAGE has, at b -/
def StC (σ : ex_S) (b : Nat) (S : ns_T) : Prop := NC σ (b + 1) S ∧ PG σ (b + 20) S 10 ∧ PG σ (b + 23) S 13 ∧ PG σ (b + 26) S 16

set_option maxRecDepth 100000 in
theorem c8_copyFrom {b o : Nat} (hB : StoreAt b) (hO : StoreAt o) (hd : b + 29 ≤ o ∨ o + 29 ≤ b) {S : ns_T} (hV : VS S) (hU : PSV S) {σ : ex_S} {μ : ex_L}(h : StC σ o S) : Cv 5 yX8_copyFrom cX8_copyFrom 2 none [.ref b, .ref o] TT σ μ (fun σ' μ' => StC σ' b S ∧ (∀ i, (i < b ∨ b + 29 ≤ i) → σ' i = σ i) ∧ μ' = μ) := by
  refine Cl_of (by decide +kernel) (Nat.le_of_ble_eq_true rfl) ?_
  show Ev RX8 cX8_copyFrom 2 5 0 0 "copyFrom" none ev_ext _ _ 0 0 0 [(0, .ref b), (1, .ref o)] [] TT σ μ
  obtain ⟨h0, h1, h2, h3⟩ := h
  obtain ⟨u1, u2, u3, -⟩ := hU
  refine e_aload_n dX8_copyFrom_0 rfl 0 rfl ?_
  refine e_getR dX8_copyFrom_1 lkX8_12 (store_0 hB) rfl ?_
  refine e_aload_n dX8_copyFrom_4 rfl 1 rfl ?_
  refine e_getR dX8_copyFrom_5 lkX8_12 (store_0 hO) rfl ?_
  refine e_callVv dX8_copyFrom_8 cvX8_33 rfl (nodes_0 (store_n hB)) rfl (c3_copyFrom (store_n hB) (store_n hO) (by omega)) (Nat.le_of_ble_eq_true rfl) (Nat.le_refl _) (Nat.le_refl _) rfl (Nat.le_of_ble_eq_true rfl) (fun s8 m8 q8 => ?_)
  obtain ⟨p0, f0, g0⟩ := q8
  rw [g0]
  refine e_aload_n dX8_copyFrom_11 rfl 0 rfl ?_
  refine e_getR dX8_copyFrom_12 lkX8_23 (store_0 hB) rfl ?_
  refine e_aload_n dX8_copyFrom_15 rfl 1 rfl ?_
  refine e_getR dX8_copyFrom_16 lkX8_23 (store_0 hO) rfl ?_
  refine e_callVv dX8_copyFrom_19 cvX8_37 rfl (pairs_0 (store_p1 hB)) rfl (c5_copyFrom (z := S 10 0) (store_p1 hB) (store_p1 hO) (by omega) (by omega) (by rw [f0 (o + 20) (by omega)]; exact h1.1) (by omega)) (Nat.le_of_ble_eq_true rfl) (Nat.le_refl _) (Nat.le_refl _) rfl (Nat.le_of_ble_eq_true rfl) (fun s19 m19 q19 => ?_)
  obtain ⟨p1, f1, g1⟩ := q19
  rw [g1]
  refine e_aload_n dX8_copyFrom_22 rfl 0 rfl ?_
  refine e_getR dX8_copyFrom_23 lkX8_27 (store_0 hB) rfl ?_
  refine e_aload_n dX8_copyFrom_26 rfl 1 rfl ?_
  refine e_getR dX8_copyFrom_27 lkX8_27 (store_0 hO) rfl ?_
  refine e_callVv dX8_copyFrom_30 cvX8_37 rfl (pairs_0 (store_p2 hB)) rfl (c5_copyFrom (z := S 13 0) (store_p2 hB) (store_p2 hO) (by omega) (by omega) (by rw [f1 (o + 23) (by omega) (by omega) (by omega), f0 (o + 23) (by omega)]; exact h2.1) (by omega)) (Nat.le_of_ble_eq_true rfl) (Nat.le_refl _) (Nat.le_refl _) rfl (Nat.le_of_ble_eq_true rfl) (fun s30 m30 q30 => ?_)
  obtain ⟨p2, f2, g2⟩ := q30
  rw [g2]
  refine e_aload_n dX8_copyFrom_33 rfl 0 rfl ?_
  refine e_getR dX8_copyFrom_34 lkX8_30 (store_0 hB) rfl ?_
  refine e_aload_n dX8_copyFrom_37 rfl 1 rfl ?_
  refine e_getR dX8_copyFrom_38 lkX8_30 (store_0 hO) rfl ?_
  refine e_callVv dX8_copyFrom_41 cvX8_37 rfl (pairs_0 (store_p3 hB)) rfl (c5_copyFrom (z := S 16 0) (store_p3 hB) (store_p3 hO) (by omega) (by omega) (by rw [f2 (o + 26) (by omega) (by omega) (by omega), f1 (o + 26) (by omega) (by omega) (by omega), f0 (o + 26) (by omega)]; exact h3.1) (by omega)) (Nat.le_of_ble_eq_true rfl) (Nat.le_refl _) (Nat.le_refl _) rfl (Nat.le_of_ble_eq_true rfl) (fun s41 m41 q41 => ?_)
  obtain ⟨p3, f3, g3⟩ := q41
  rw [g3]
  refine e_retv dX8_copyFrom_44 (Nat.le_refl _) (Nat.le_refl _) ?_
  refine ⟨⟨(p0 S hV h0).to hV (fun i hi1 hi2 => by rw [f3 i (by omega) (by omega) (by omega), f2 i (by omega) (by omega) (by omega), f1 i (by omega) (by omega) (by omega)]), ?_, ?_, ?_⟩, fun i hi => by rw [f3 i (by omega) (by omega) (by omega), f2 i (by omega) (by omega) (by omega), f1 i (by omega) (by omega) (by omega), f0 i (by omega)], rfl⟩
  · exact (p1 S 10 rfl (h1.to (fun i hi1 hi2 => f0 i (by omega)))).to (fun i hi1 hi2 => by rw [f3 i (by omega) (by omega) (by omega), f2 i (by omega) (by omega) (by omega)])
  · exact (p2 S 13 rfl (h2.to (fun i hi1 hi2 => by rw [f1 i (by omega) (by omega) (by omega), f0 i (by omega)]))).to (fun i hi1 hi2 => f3 i (by omega) (by omega) (by omega))
  · exact p3 S 16 rfl (h3.to (fun i hi1 hi2 => by rw [f2 i (by omega) (by omega) (by omega), f1 i (by omega) (by omega) (by omega), f0 i (by omega)]))

set_option maxRecDepth 100000 in
theorem c10_image {S : ns_T} (hV : VS S) (hU : PSV S) {σ : ex_S} {μ : ex_L}(h : StC σ 32 S) : Ci 6 yX10_image cX10_image 1 (some .int) [.ref 0] TT σ μ (fun z' σ' μ' => z' = nI (S 0 0) ∧ StC σ' 61 S ∧ σ' 0 6 = 1 ∧ (∀ i, i ≠ 0 → (i < 61 ∨ 90 ≤ i) → σ' i = σ i) ∧ μ' = μ) := by
  refine Cl_of (by decide +kernel) (Nat.le_of_ble_eq_true rfl) ?_
  show Ev RX10 cX10_image 1 6 0 0 "image" (some .int) ev_ext _ _ 0 0 0 [(0, .ref 0)] [] TT σ μ
  refine e_aload_n dX10_image_0 rfl 0 rfl ?_
  refine e_getR dX10_image_1 lkX10_50 tt_0 rfl ?_
  refine e_aload_n dX10_image_4 rfl 0 rfl ?_
  refine e_getR dX10_image_5 lkX10_46 tt_0 rfl ?_
  refine e_callVv dX10_image_8 cvX10_361 rfl (store_0 store_61_) rfl (c8_copyFrom store_61_ store_32_ (by decide) hV hU h) (Nat.le_of_ble_eq_true rfl) (Nat.le_refl _) (Nat.le_refl _) rfl (Nat.le_of_ble_eq_true rfl) (fun s8 m8 q8 => ?_)
  obtain ⟨p0, f0, g0⟩ := q8
  rw [g0]
  refine e_aload_n dX10_image_11 rfl 0 rfl ?_
  refine e_iconst (v := 1) dX10_image_12 rfl ?_
  refine e_putI dX10_image_13 lkX10_53' tt_0 rfl rfl rfl ?_
  refine e_aload_n dX10_image_16 rfl 0 rfl ?_
  refine e_getR dX10_image_17 lkX10_46 tt_0 rfl ?_
  refine e_getR dX10_image_20 lkX10_89 (store_0 store_32_) rfl ?_
  refine e_getI dX10_image_23 lkX10_92 (nodes_0 (store_n store_32_)) rfl ?_
  refine e_reti dX10_image_26 ev_nwi (Nat.le_refl _) (Nat.le_refl _) ?_
  refine ⟨by rw [sup_obj (by decide), f0 33 (by decide)]; exact h.1.1, ?_, sup_same, fun i h1 h2 => by rw [sup_obj h1]; exact f0 i h2, rfl⟩
  obtain ⟨k1, k2, k3, k4⟩ := p0
  exact ⟨k1.to hV (fun i _ _ => sup_obj (by omega)), k2.to (fun i _ _ => sup_obj (by omega)), k3.to (fun i _ _ => sup_obj (by omega)), k4.to (fun i _ _ => sup_obj (by omega))⟩

set_option maxRecDepth 100000 in
theorem c10_undo0 {σ : ex_S} {μ : ex_L}(h : σ 0 6 = 0) : Ci 6 yX10_undo cX10_undo 1 (some .int) [.ref 0] TT σ μ (fun z' σ' μ' => z' = -3 ∧ σ' = σ ∧ μ' = μ) := by
  refine Cl_of (by decide +kernel) (Nat.le_of_ble_eq_true rfl) ?_
  show Ev RX10 cX10_undo 1 6 0 0 "undo" (some .int) ev_ext _ _ 0 0 0 [(0, .ref 0)] [] TT σ μ
  refine e_aload_n dX10_undo_0 rfl 0 rfl ?_
  refine e_getI dX10_undo_1 lkX10_53 tt_0 rfl ?_
  refine e_if_ne (t := 10) dX10_undo_4 (by decide) (fun h4 => ?_) (fun h4 => ?_)
  · skip
    exact absurd h h4
  · skip
    refine e_bipush (v := (-3)) dX10_undo_7 rfl ?_
    refine e_reti dX10_undo_9 ev_nwi (Nat.le_refl _) (Nat.le_refl _) ?_
    exact ⟨rfl, rfl, rfl⟩

set_option maxRecDepth 100000 in
theorem c10_undo1 {S : ns_T} (hV : VS S) (hU : PSV S) {σ : ex_S} {μ : ex_L}(h1 : σ 0 6 = 1) (h : StC σ 61 S) : Ci 6 yX10_undo cX10_undo 1 (some .int) [.ref 0] TT σ μ (fun z' σ' μ' => z' = nI (S 0 0) ∧ StC σ' 32 S ∧ (∀ i, (i < 32 ∨ 61 ≤ i) → σ' i = σ i) ∧ μ' = μ) := by
  refine Cl_of (by decide +kernel) (Nat.le_of_ble_eq_true rfl) ?_
  show Ev RX10 cX10_undo 1 6 0 0 "undo" (some .int) ev_ext _ _ 0 0 0 [(0, .ref 0)] [] TT σ μ
  refine e_aload_n dX10_undo_0 rfl 0 rfl ?_
  refine e_getI dX10_undo_1 lkX10_53 tt_0 rfl ?_
  refine e_if_ne (t := 10) dX10_undo_4 (by decide) (fun h4 => ?_) (fun h4 => ?_)
  · skip
    refine e_aload_n dX10_undo_10 rfl 0 rfl ?_
    refine e_getR dX10_undo_11 lkX10_46 tt_0 rfl ?_
    refine e_aload_n dX10_undo_14 rfl 0 rfl ?_
    refine e_getR dX10_undo_15 lkX10_50 tt_0 rfl ?_
    refine e_callVv dX10_undo_18 cvX10_361 rfl (store_0 store_32_) rfl (c8_copyFrom store_32_ store_61_ (by decide) hV hU h) (Nat.le_of_ble_eq_true rfl) (Nat.le_refl _) (Nat.le_refl _) rfl (Nat.le_of_ble_eq_true rfl) (fun s18 m18 q18 => ?_)
    obtain ⟨p0, f0, g0⟩ := q18
    rw [g0]
    refine e_aload_n dX10_undo_21 rfl 0 rfl ?_
    refine e_getR dX10_undo_22 lkX10_46 tt_0 rfl ?_
    refine e_getR dX10_undo_25 lkX10_89 (store_0 store_32_) rfl ?_
    refine e_getI dX10_undo_28 lkX10_92 (nodes_0 (store_n store_32_)) rfl ?_
    refine e_reti dX10_undo_31 ev_nwi (Nat.le_refl _) (Nat.le_refl _) ?_
    exact ⟨p0.1.1, p0, f0, rfl⟩
  · skip
    exact absurd (h1.symm.trans h4) (by decide)
