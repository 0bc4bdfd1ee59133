set_option maxRecDepth 100000 in
theorem c4_productBy {p r c : Nat} (hp : p < 2 ^ 31) (hr : r < 2 ^ 24) (hc : c < 16) {σ : ex_S} {μ : ex_L} : Ci 2 yX4_productBy cX4_productBy 7 (some .int) [.int (nI p), .int (nI r), .int (nI c)] TT σ μ (fun z' σ' μ' => z' = nI (prN p r c) ∧ σ' = σ ∧ μ' = μ) := by
  refine Cl_of (by decide +kernel) (Nat.le_of_ble_eq_true rfl) ?_
  show Ev RX4 cX4_productBy 7 2 0 0 "productBy" (some .int) ev_ext _ _ 0 0 0 [(0, .int (nI p)), (1, .int (nI r)), (2, .int (nI c))] [] TT σ μ
  have loop : ∀ (m i P h : Nat), i + m = 4 → h < 2 ^ 24 → prR p c m i P h = prN p r c → Ev RX4 cX4_productBy 7 2 0 0 "productBy" (some .int) ev_ext TT.length (fun v9 T9 σ9 μ9 => T9 = TT ∧ ∃ z9, v9 = some (.int z9) ∧ (fun z' σ' μ' => z' = nI (prN p r c) ∧ σ' = σ ∧ μ' = μ) z9 σ9 μ9) 0 0 8 [(0, .int (nI p)), (1, .int (nI r)), (2, .int (nI c)), (3, .int (nI P)), (4, .int (nI h)), (5, .int (nI i))] [] TT σ μ := by
    intro m
    induction m with
    | zero =>
      intro i P h hi hh hR
      obtain rfl : i = 4 := by omega
      refine e_iload dX4_productBy_8 5 rfl ?_
      refine e_iconst (v := 4) dX4_productBy_10 rfl ?_
      refine e_icmp_ge (t := 60) dX4_productBy_11 (by decide) (fun h11 => ?_) (fun h11 => ?_)
      · skip
        refine e_iload_n dX4_productBy_60 rfl 3 rfl ?_
        refine e_reti dX4_productBy_61 ev_nwi (Nat.le_refl _) (Nat.le_refl _) ?_
        exact ⟨by rw [← hR]; rfl, rfl, rfl⟩
      · skip
        exact absurd (show nI 4 ≤ nI 4 from (i_le (by decide) (by decide)).mpr (Nat.le_refl 4)) h11
    | succ m ih =>
      intro i P h hi hh hR
      refine e_iload dX4_productBy_8 5 rfl ?_
      refine e_iconst (v := 4) dX4_productBy_10 rfl ?_
      refine e_icmp_ge (t := 60) dX4_productBy_11 (by decide) (fun h11 => ?_) (fun h11 => ?_)
      · skip
        exact absurd ((i_le (by decide) (by omega)).mp (show nI 4 ≤ nI i from h11)) (by omega)
      · skip
        refine e_iload_n dX4_productBy_14 rfl 2 rfl ?_
        refine e_iload dX4_productBy_15 5 rfl ?_
        refine e_ishr dX4_productBy_17 ?_
        refine e_iconst (v := 1) dX4_productBy_18 rfl ?_
        refine e_iand dX4_productBy_19 ?_
        refine e_if_eq (t := 28) dX4_productBy_20 (by decide) (fun h20 => ?_) (fun h20 => ?_)
        · skip
          refine e_iload dX4_productBy_28 4 rfl ?_
          refine e_iconst (v := 3) dX4_productBy_30 rfl ?_
          refine e_iushr dX4_productBy_31 ?_
          refine e_ldc dX4_productBy_32 kcX4_39 ?_
          refine e_iand dX4_productBy_34 ?_
          refine e_name (fun x35 hx35 => ?_)
          refine e_istore [(0, .int (nI p)), (1, .int (nI r)), (2, .int (nI c)), (3, .int (nI P)), (4, .int (nI h)), (5, .int (nI i)), (6, .int x35)] dX4_productBy_35 (by decide) rfl ?_
          refine e_iload dX4_productBy_37 4 rfl ?_
          refine e_iconst (v := 1) dX4_productBy_39 rfl ?_
          refine e_ishl dX4_productBy_40 ?_
          refine e_ldc dX4_productBy_41 kcX4_40 ?_
          refine e_iand dX4_productBy_43 ?_
          refine e_iload dX4_productBy_44 6 rfl ?_
          refine e_iload_n dX4_productBy_46 rfl 0 rfl ?_
          refine e_bipush (v := 15) dX4_productBy_47 rfl ?_
          refine e_iand dX4_productBy_49 ?_
          refine e_imul dX4_productBy_50 ?_
          refine e_ixor dX4_productBy_51 ?_
          refine e_name (fun x52 hx52 => ?_)
          refine e_istore [(0, .int (nI p)), (1, .int (nI r)), (2, .int (nI c)), (3, .int (nI P)), (4, .int x52), (5, .int (nI i)), (6, .int x35)] dX4_productBy_52 (by decide) rfl ?_
          refine e_iinc (nI (i + 1)) [(0, .int (nI p)), (1, .int (nI r)), (2, .int (nI c)), (3, .int (nI P)), (4, .int x52), (5, .int (nI (i + 1))), (6, .int x35)] dX4_productBy_54 5 rfl (nI_1 i) (by decide) rfl ?_
          refine e_goto (t := 8) dX4_productBy_57 (by decide) ?_
          refine e_lv [(0, .int (nI p)), (1, .int (nI r)), (2, .int (nI c)), (3, .int (nI P)), (4, .int x52), (5, .int (nI (i + 1)))] (List.forall_mem_cons.mpr ⟨List.mem_of_getElem? (i := 0) rfl, List.forall_mem_cons.mpr ⟨List.mem_of_getElem? (i := 1) rfl, List.forall_mem_cons.mpr ⟨List.mem_of_getElem? (i := 2) rfl, List.forall_mem_cons.mpr ⟨List.mem_of_getElem? (i := 3) rfl, List.forall_mem_cons.mpr ⟨List.mem_of_getElem? (i := 4) rfl, List.forall_mem_cons.mpr ⟨List.mem_of_getElem? (i := 5) rfl, fun _ h => absurd h List.not_mem_nil⟩⟩⟩⟩⟩⟩) ?_
          subst hx52 hx35
          rw [xt_i hp hh]
          refine ih (i + 1) _ _ (by omega) (xt_lt hh) ?_
          rw [← hR]
          show _ = prR p c m (i + 1) (if c.testBit i then P ^^^ h else P) (xtN p h)
          rw [if_neg (by rw [(i_bit (by omega) (by omega)).mp h20]; decide)]
        · skip
          refine e_iload_n dX4_productBy_23 rfl 3 rfl ?_
          refine e_iload dX4_productBy_24 4 rfl ?_
          refine e_ixor dX4_productBy_26 ?_
          refine e_name (fun x27 hx27 => ?_)
          refine e_istore_n [(0, .int (nI p)), (1, .int (nI r)), (2, .int (nI c)), (3, .int x27), (4, .int (nI h)), (5, .int (nI i))] dX4_productBy_27 rfl (by decide) rfl ?_
          refine e_iload dX4_productBy_28 4 rfl ?_
          refine e_iconst (v := 3) dX4_productBy_30 rfl ?_
          refine e_iushr dX4_productBy_31 ?_
          refine e_ldc dX4_productBy_32 kcX4_39 ?_
          refine e_iand dX4_productBy_34 ?_
          refine e_name (fun x35 hx35 => ?_)
          refine e_istore [(0, .int (nI p)), (1, .int (nI r)), (2, .int (nI c)), (3, .int x27), (4, .int (nI h)), (5, .int (nI i)), (6, .int x35)] dX4_productBy_35 (by decide) rfl ?_
          refine e_iload dX4_productBy_37 4 rfl ?_
          refine e_iconst (v := 1) dX4_productBy_39 rfl ?_
          refine e_ishl dX4_productBy_40 ?_
          refine e_ldc dX4_productBy_41 kcX4_40 ?_
          refine e_iand dX4_productBy_43 ?_
          refine e_iload dX4_productBy_44 6 rfl ?_
          refine e_iload_n dX4_productBy_46 rfl 0 rfl ?_
          refine e_bipush (v := 15) dX4_productBy_47 rfl ?_
          refine e_iand dX4_productBy_49 ?_
          refine e_imul dX4_productBy_50 ?_
          refine e_ixor dX4_productBy_51 ?_
          refine e_name (fun x52 hx52 => ?_)
          refine e_istore [(0, .int (nI p)), (1, .int (nI r)), (2, .int (nI c)), (3, .int x27), (4, .int x52), (5, .int (nI i)), (6, .int x35)] dX4_productBy_52 (by decide) rfl ?_
          refine e_iinc (nI (i + 1)) [(0, .int (nI p)), (1, .int (nI r)), (2, .int (nI c)), (3, .int x27), (4, .int x52), (5, .int (nI (i + 1))), (6, .int x35)] dX4_productBy_54 5 rfl (nI_1 i) (by decide) rfl ?_
          refine e_goto (t := 8) dX4_productBy_57 (by decide) ?_
          refine e_lv [(0, .int (nI p)), (1, .int (nI r)), (2, .int (nI c)), (3, .int x27), (4, .int x52), (5, .int (nI (i + 1)))] (List.forall_mem_cons.mpr ⟨List.mem_of_getElem? (i := 0) rfl, List.forall_mem_cons.mpr ⟨List.mem_of_getElem? (i := 1) rfl, List.forall_mem_cons.mpr ⟨List.mem_of_getElem? (i := 2) rfl, List.forall_mem_cons.mpr ⟨List.mem_of_getElem? (i := 3) rfl, List.forall_mem_cons.mpr ⟨List.mem_of_getElem? (i := 4) rfl, List.forall_mem_cons.mpr ⟨List.mem_of_getElem? (i := 5) rfl, fun _ h => absurd h List.not_mem_nil⟩⟩⟩⟩⟩⟩) ?_
          subst hx27
          subst hx52 hx35
          rw [xt_i hp hh, nx_xor]
          refine ih (i + 1) _ _ (by omega) (xt_lt hh) ?_
          rw [← hR]
          show _ = prR p c m (i + 1) (if c.testBit i then P ^^^ h else P) (xtN p h)
          rw [if_pos (by cases hb : c.testBit i with
              | true => rfl
              | false => exact absurd ((i_bit (by omega) (by omega)).mpr hb) h20)]
  refine e_iconst (v := 0) dX4_productBy_0 rfl ?_
  refine e_istore_n [(0, .int (nI p)), (1, .int (nI r)), (2, .int (nI c)), (3, .int 0)] dX4_productBy_1 rfl (by decide) rfl ?_
  refine e_iload_n dX4_productBy_2 rfl 1 rfl ?_
  refine e_istore [(0, .int (nI p)), (1, .int (nI r)), (2, .int (nI c)), (3, .int 0), (4, .int (nI r))] dX4_productBy_3 (by decide) rfl ?_
  refine e_iconst (v := 0) dX4_productBy_5 rfl ?_
  refine e_istore [(0, .int (nI p)), (1, .int (nI r)), (2, .int (nI c)), (3, .int 0), (4, .int (nI r)), (5, .int 0)] dX4_productBy_6 (by decide) rfl ?_
  exact loop 4 0 0 r rfl hr (prR_eq p r c)

set_option maxRecDepth 100000 in
theorem c11_product {p a b : Nat} (hp : p < 32) (ha : a < 16) (hb : b < 16) {σ : ex_S} {μ : ex_L} : Ci 3 yX11_product cX11_product 5 (some .int) [.int (nI a), .int (nI b), .int (nI p)] TT σ μ (fun z' σ' μ' => z' = nI (gmul p a b) ∧ σ' = σ ∧ μ' = μ) := by
  refine Cl_of (by decide +kernel) (Nat.le_of_ble_eq_true rfl) ?_
  show Ev RX11 cX11_product 5 3 0 0 "product" (some .int) ev_ext _ _ 0 0 0 [(0, .int (nI a)), (1, .int (nI b)), (2, .int (nI p))] [] TT σ μ
  have loop2 : ∀ (m S : Nat), m ≤ 3 → S < 2 ^ 7 → pdB p m S = gmul p a b → Ev RX11 cX11_product 5 3 0 0 "product" (some .int) ev_ext TT.length (fun v9 T9 σ9 μ9 => T9 = TT ∧ ∃ z9, v9 = some (.int z9) ∧ (fun z' σ' μ' => z' = nI (gmul p a b) ∧ σ' = σ ∧ μ' = μ) z9 σ9 μ9) 0 0 37 [(0, .int (nI a)), (1, .int (nI b)), (2, .int (nI p)), (3, .int (nI S)), (4, .int (nI (m + 3)))] [] TT σ μ := by
    intro m
    induction m with
    | zero =>
      intro S hm hS hR
      refine e_iload dX11_product_37 4 rfl ?_
      refine e_iconst (v := 4) dX11_product_39 rfl ?_
      refine e_icmp_lt (t := 67) dX11_product_40 (by decide) (fun h40 => ?_) (fun h40 => ?_)
      · skip
        refine e_iload_n dX11_product_67 rfl 3 rfl ?_
        refine e_reti dX11_product_68 ev_nwi (Nat.le_refl _) (Nat.le_refl _) ?_
        exact ⟨by rw [← hR]; rfl, rfl, rfl⟩
      · skip
        exact absurd (show nI 3 < nI 4 from (i_lt (by decide) (by decide)).mpr (by decide)) h40
    | succ m ih =>
      intro S hm hS hR
      refine e_iload dX11_product_37 4 rfl ?_
      refine e_iconst (v := 4) dX11_product_39 rfl ?_
      refine e_icmp_lt (t := 67) dX11_product_40 (by decide) (fun h40 => ?_) (fun h40 => ?_)
      · skip
        exact absurd ((i_lt (by omega) (by decide)).mp (show nI (m + 1 + 3) < nI 4 from h40)) (by omega)
      · skip
        refine e_iload_n dX11_product_43 rfl 3 rfl ?_
        refine e_iload dX11_product_44 4 rfl ?_
        refine e_callSi dX11_product_46 cvX11_103 rfl (c11_isIn (nI S) (nI (m + 1 + 3))) (Nat.le_of_ble_eq_true rfl) (Nat.le_refl _) (Nat.le_refl _) rfl (Nat.le_of_ble_eq_true rfl) (fun r46 s46 m46 q46 => ?_)
        obtain ⟨q46, e46, g46⟩ := q46
        rw [e46, g46]
        clear e46 g46 s46 m46
        refine e_if_eq (t := 61) dX11_product_49 (by decide) (fun h49 => ?_) (fun h49 => ?_)
        · skip
          refine e_iinc (nI (m + 3)) [(0, .int (nI a)), (1, .int (nI b)), (2, .int (nI p)), (3, .int (nI S)), (4, .int (nI (m + 3)))] dX11_product_61 4 rfl (show nI (m + 1 + 3) + (-1) = nI (m + 3) from pk_m1 (m + 3)) (by decide) rfl ?_
          refine e_goto (t := 37) dX11_product_64 (by decide) ?_
          rw [q46, bI_eq0, i_bit1 (by omega) (by omega)] at h49
          refine ih _ (by omega) ?_ ?_
          · exact hS
          · rw [← hR]
            show _ = pdB p m (if S.testBit (m + 4) then S ^^^ (p * 2 ^ m) else S)
            rw [if_neg (fun q => h49 (by rw [show m + 1 + 3 = m + 4 by omega]; exact q))]
        · skip
          refine e_iload_n dX11_product_52 rfl 3 rfl ?_
          refine e_iload_n dX11_product_53 rfl 2 rfl ?_
          refine e_iload dX11_product_54 4 rfl ?_
          refine e_iconst (v := 4) dX11_product_56 rfl ?_
          refine e_isub dX11_product_57 ?_
          refine e_ishl dX11_product_58 ?_
          refine e_ixor dX11_product_59 ?_
          refine e_name (fun x60 hx60 => ?_)
          refine e_istore_n [(0, .int (nI a)), (1, .int (nI b)), (2, .int (nI p)), (3, .int x60), (4, .int (nI (m + 1 + 3)))] dX11_product_60 rfl (by decide) rfl ?_
          refine e_iinc (nI (m + 3)) [(0, .int (nI a)), (1, .int (nI b)), (2, .int (nI p)), (3, .int x60), (4, .int (nI (m + 3)))] dX11_product_61 4 rfl (show nI (m + 1 + 3) + (-1) = nI (m + 3) from pk_m1 (m + 3)) (by decide) rfl ?_
          refine e_goto (t := 37) dX11_product_64 (by decide) ?_
          subst hx60
          have e1 : nI (m + 1 + 3) - 4 = nI m := (i_sub (a := m + 1 + 3) (b := 4) (by omega)).trans (congrArg nI (by omega))
          have hpm : p * 2 ^ m ≤ 31 * 2 ^ 2 := Nat.mul_le_mul (by omega) (Nat.pow_le_pow_right (by decide) (by omega))
          rw [e1, i_shl (by omega) (by omega), nx_xor]
          rw [q46, bI_eq0, i_bit1 (by omega) (by omega)] at h49
          refine ih _ (by omega) ?_ ?_
          · exact Nat.xor_lt_two_pow hS (by omega)
          · rw [← hR]
            show _ = pdB p m (if S.testBit (m + 4) then S ^^^ (p * 2 ^ m) else S)
            rw [if_pos (by cases hb9 : S.testBit (m + 4) with
              | true => rfl
              | false => exact absurd (fun q => by rw [show m + 1 + 3 = m + 4 by omega, hb9] at q; cases q) h49)]
  have loop1 : ∀ (m i S : Nat), i + m = 4 → S < 2 ^ 7 → pdB p 3 (pdA a b m i S) = gmul p a b → Ev RX11 cX11_product 5 3 0 0 "product" (some .int) ev_ext TT.length (fun v9 T9 σ9 μ9 => T9 = TT ∧ ∃ z9, v9 = some (.int z9) ∧ (fun z' σ' μ' => z' = nI (gmul p a b) ∧ σ' = σ ∧ μ' = μ) z9 σ9 μ9) 0 0 5 [(0, .int (nI a)), (1, .int (nI b)), (2, .int (nI p)), (3, .int (nI S)), (4, .int (nI i))] [] TT σ μ := by
    intro m
    induction m with
    | zero =>
      intro i S hi hS hR
      obtain rfl : i = 4 := by omega
      refine e_iload dX11_product_5 4 rfl ?_
      refine e_iconst (v := 4) dX11_product_7 rfl ?_
      refine e_icmp_ge (t := 33) dX11_product_8 (by decide) (fun h8 => ?_) (fun h8 => ?_)
      · skip
        refine e_bipush (v := 6) dX11_product_33 rfl ?_
        refine e_istore [(0, .int (nI a)), (1, .int (nI b)), (2, .int (nI p)), (3, .int (nI S)), (4, .int 6)] dX11_product_35 (by decide) rfl ?_
        exact loop2 3 S (Nat.le_refl 3) hS hR
      · skip
        exact absurd (show nI 4 ≤ nI 4 from (i_le (by decide) (by decide)).mpr (Nat.le_refl 4)) h8
    | succ m ih =>
      intro i S hi hS hR
      have hbi : b * 2 ^ i ≤ 15 * 2 ^ 3 := Nat.mul_le_mul (by omega) (Nat.pow_le_pow_right (by decide) (by omega))
      refine e_iload dX11_product_5 4 rfl ?_
      refine e_iconst (v := 4) dX11_product_7 rfl ?_
      refine e_icmp_ge (t := 33) dX11_product_8 (by decide) (fun h8 => ?_) (fun h8 => ?_)
      · skip
        exact absurd ((i_le (by decide) (by omega)).mp (show nI 4 ≤ nI i from h8)) (by omega)
      · skip
        refine e_iload_n dX11_product_11 rfl 0 rfl ?_
        refine e_iload dX11_product_12 4 rfl ?_
        refine e_callSi dX11_product_14 cvX11_103 rfl (c11_isIn (nI a) (nI i)) (Nat.le_of_ble_eq_true rfl) (Nat.le_refl _) (Nat.le_refl _) rfl (Nat.le_of_ble_eq_true rfl) (fun r14 s14 m14 q14 => ?_)
        obtain ⟨q14, e14, g14⟩ := q14
        rw [e14, g14]
        clear e14 g14 s14 m14
        refine e_if_eq (t := 27) dX11_product_17 (by decide) (fun h17 => ?_) (fun h17 => ?_)
        · skip
          refine e_iinc (nI (i + 1)) [(0, .int (nI a)), (1, .int (nI b)), (2, .int (nI p)), (3, .int (nI S)), (4, .int (nI (i + 1)))] dX11_product_27 4 rfl (nI_1 i) (by decide) rfl ?_
          refine e_goto (t := 5) dX11_product_30 (by decide) ?_
          rw [q14, bI_eq0, i_bit1 (by omega) (by omega)] at h17
          refine ih (i + 1) _ (by omega) ?_ ?_
          · exact hS
          · rw [← hR]
            show _ = pdB p 3 (pdA a b m (i + 1) (if a.testBit i then S ^^^ (b * 2 ^ i) else S))
            rw [if_neg h17]
        · skip
          refine e_iload_n dX11_product_20 rfl 3 rfl ?_
          refine e_iload_n dX11_product_21 rfl 1 rfl ?_
          refine e_iload dX11_product_22 4 rfl ?_
          refine e_ishl dX11_product_24 ?_
          refine e_ixor dX11_product_25 ?_
          refine e_name (fun x26 hx26 => ?_)
          refine e_istore_n [(0, .int (nI a)), (1, .int (nI b)), (2, .int (nI p)), (3, .int x26), (4, .int (nI i))] dX11_product_26 rfl (by decide) rfl ?_
          refine e_iinc (nI (i + 1)) [(0, .int (nI a)), (1, .int (nI b)), (2, .int (nI p)), (3, .int x26), (4, .int (nI (i + 1)))] dX11_product_27 4 rfl (nI_1 i) (by decide) rfl ?_
          refine e_goto (t := 5) dX11_product_30 (by decide) ?_
          subst hx26
          rw [i_shl (by omega) (by omega), nx_xor]
          rw [q14, bI_eq0, i_bit1 (by omega) (by omega)] at h17
          refine ih (i + 1) _ (by omega) ?_ ?_
          · exact Nat.xor_lt_two_pow hS (by omega)
          · rw [← hR]
            show _ = pdB p 3 (pdA a b m (i + 1) (if a.testBit i then S ^^^ (b * 2 ^ i) else S))
            rw [if_pos (by cases hb9 : a.testBit i with
              | true => rfl
              | false => exact absurd (fun q => by rw [hb9] at q; cases q) h17)]
  refine e_iconst (v := 0) dX11_product_0 rfl ?_
  refine e_istore_n [(0, .int (nI a)), (1, .int (nI b)), (2, .int (nI p)), (3, .int 0)] dX11_product_1 rfl (by decide) rfl ?_
  refine e_iconst (v := 0) dX11_product_2 rfl ?_
  refine e_istore [(0, .int (nI a)), (1, .int (nI b)), (2, .int (nI p)), (3, .int 0), (4, .int 0)] dX11_product_3 (by decide) rfl ?_
  exact loop1 4 0 0 rfl (by decide) (pd_eq p a b)

theorem gmul_lt16 {p : Nat} (hp : 16 ≤ p ∧ p < 32) {a b : Nat} (ha : a < 16) (hb : b < 16) : gmul p a b < 16 := by
  have hd : ∀ k, k < 16 → ∀ a, a < 16 → ∀ b, b < 16 → gmul (16 + k) a b < 16 := by decide +kernel
  have h := hd (p - 16) (by omega) a ha b hb
  rwa [show 16 + (p - 16) = p by omega] at h
theorem ginv_lt16 {p : Nat} (a : Nat) : ginv p a < 16 := by
  have h : ∀ m o, o + m ≤ 16 → ginvF p a m o < 16 := by
    intro m
    induction m with
    | zero => intro o _; exact (by decide : 0 < 16)
    | succ m ih =>
      intro o ho
      show (if gmul p a o = 1 then o else ginvF p a m (o + 1)) < 16
      split
      · omega
      · exact ih (o + 1) (by omega)
  exact h 15 1 (by decide)

set_option maxRecDepth 100000 in
theorem c4_inverseBy {p : Nat} (hp : 16 ≤ p ∧ p < 32) {a : Nat} (ha : a < 16) {σ : ex_S} {μ : ex_L} : Ci 3 yX4_inverseBy cX4_inverseBy 3 (some .int) [.int (nI p), .int (nI a)] TT σ μ (fun z' σ' μ' => z' = nI (ginv p a) ∧ σ' = σ ∧ μ' = μ) := by
  refine Cl_of (by decide +kernel) (Nat.le_of_ble_eq_true rfl) ?_
  show Ev RX4 cX4_inverseBy 3 3 0 0 "inverseBy" (some .int) ev_ext _ _ 0 0 0 [(0, .int (nI p)), (1, .int (nI a))] [] TT σ μ
  have loop : ∀ (m o : Nat), o + m = 16 → 1 ≤ o → ginvF p a m o = ginv p a → Ev RX4 cX4_inverseBy 3 3 0 0 "inverseBy" (some .int) ev_ext TT.length (fun v9 T9 σ9 μ9 => T9 = TT ∧ ∃ z9, v9 = some (.int z9) ∧ (fun z' σ' μ' => z' = nI (ginv p a) ∧ σ' = σ ∧ μ' = μ) z9 σ9 μ9) 0 0 2 [(0, .int (nI p)), (1, .int (nI a)), (2, .int (nI o))] [] TT σ μ := by
    intro m
    induction m with
    | zero =>
      intro o ho ho1 hR
      obtain rfl : o = 16 := by omega
      refine e_iload_n dX4_inverseBy_2 rfl 2 rfl ?_
      refine e_bipush (v := 15) dX4_inverseBy_3 rfl ?_
      refine e_icmp_gt (t := 26) dX4_inverseBy_5 (by decide) (fun h5 => ?_) (fun h5 => ?_)
      · skip
        refine e_iconst (v := 0) dX4_inverseBy_26 rfl ?_
        refine e_reti dX4_inverseBy_27 ev_nwi (Nat.le_refl _) (Nat.le_refl _) ?_
        exact ⟨by rw [← hR]; rfl, rfl, rfl⟩
      · skip
        exact absurd (show nI 15 < nI 16 from (i_lt (by decide) (by decide)).mpr (by omega)) h5
    | succ m ih =>
      intro o ho ho1 hR
      have e2 : ginvF p a (m + 1) o = if gmul p a o = 1 then o else ginvF p a m (o + 1) := rfl
      refine e_iload_n dX4_inverseBy_2 rfl 2 rfl ?_
      refine e_bipush (v := 15) dX4_inverseBy_3 rfl ?_
      refine e_icmp_gt (t := 26) dX4_inverseBy_5 (by decide) (fun h5 => ?_) (fun h5 => ?_)
      · skip
        exact absurd ((i_lt (by omega) (by omega)).mp (show nI 15 < nI o from h5)) (by omega)
      · skip
        refine e_iload_n dX4_inverseBy_8 rfl 0 rfl ?_
        refine e_iload_n dX4_inverseBy_9 rfl 1 rfl ?_
        refine e_iload_n dX4_inverseBy_10 rfl 2 rfl ?_
        refine e_callSi dX4_inverseBy_11 cvX4_32 rfl (c4_productBy (p := p) (r := a) (c := o) (by omega) (by omega) (by omega)) (Nat.le_of_ble_eq_true rfl) (Nat.le_refl _) (Nat.le_refl _) rfl (Nat.le_of_ble_eq_true rfl) (fun r11 s11 m11 q11 => ?_)
        obtain ⟨q11, e11, g11⟩ := q11
        rw [e11, g11]
        clear e11 g11 s11 m11
        refine e_iconst (v := 1) dX4_inverseBy_14 rfl ?_
        refine e_icmp_ne (t := 20) dX4_inverseBy_15 (by decide) (fun h15 => ?_) (fun h15 => ?_)
        · skip
          rw [q11, prN_small hp ha (by omega)] at h15
          rw [if_neg (fun q => h15 (congrArg nI q))] at e2
          refine e_iinc (nI (o + 1)) [(0, .int (nI p)), (1, .int (nI a)), (2, .int (nI (o + 1)))] dX4_inverseBy_20 2 rfl (nI_1 o) (by decide) rfl ?_
          refine e_goto (t := 2) dX4_inverseBy_23 (by decide) ?_
          exact ih (o + 1) (by omega) (by omega) (by rw [← hR, e2])
        · skip
          rw [q11, prN_small hp ha (by omega)] at h15
          rw [if_pos ((i_eq (Nat.lt_of_lt_of_le (gmul_lt16 hp ha (by omega)) (by decide)) (by decide)).mp (show nI (gmul p a o) = nI 1 from h15))] at e2
          refine e_iload_n dX4_inverseBy_18 rfl 2 rfl ?_
          refine e_reti dX4_inverseBy_19 ev_nwi (Nat.le_refl _) (Nat.le_refl _) ?_
          exact ⟨by rw [← hR, e2], rfl, rfl⟩
  refine e_iconst (v := 1) dX4_inverseBy_0 rfl ?_
  refine e_istore_n [(0, .int (nI p)), (1, .int (nI a)), (2, .int 1)] dX4_inverseBy_1 rfl (by decide) rfl ?_
  exact loop 15 1 rfl (by decide) rfl

/-- all of 1 .. 15 from k on have an inverse -/
def gfF (p : Nat) : Nat → Nat → Bool
  | 0, _ => true
  | m + 1, k => if ginv p k = 0 then false else gfF p m (k + 1)
theorem gfF_eq : ∀ p, 16 ≤ p ∧ p < 32 → gfF p 15 1 = gfield p := by
  intro p h
  have h2 : ∀ k, k < 16 → gfF (16 + k) 15 1 = gfield (16 + k) := by decide +kernel
  have h3 := h2 (p - 16) (by omega)
  rwa [show 16 + (p - 16) = p by omega] at h3

set_option maxRecDepth 100000 in
theorem c4_isField {p : Nat} (hp : 16 ≤ p ∧ p < 32) {σ : ex_S} {μ : ex_L} : Ci 4 yX4_isField cX4_isField 2 (some .boolean) [.int (nI p)] TT σ μ (fun z' σ' μ' => z' = bI (gfield p = true) ∧ σ' = σ ∧ μ' = μ) := by
  refine Cl_of (by decide +kernel) (Nat.le_of_ble_eq_true rfl) ?_
  show Ev RX4 cX4_isField 2 4 0 0 "isField" (some .boolean) ev_ext _ _ 0 0 0 [(0, .int (nI p))] [] TT σ μ
  have loop : ∀ (m o : Nat), o + m = 16 → 1 ≤ o → gfF p m o = gfield p → Ev RX4 cX4_isField 2 4 0 0 "isField" (some .boolean) ev_ext TT.length (fun v9 T9 σ9 μ9 => T9 = TT ∧ ∃ z9, v9 = some (.int z9) ∧ (fun z' σ' μ' => z' = bI (gfield p = true) ∧ σ' = σ ∧ μ' = μ) z9 σ9 μ9) 0 0 2 [(0, .int (nI p)), (1, .int (nI o))] [] TT σ μ := by
    intro m
    induction m with
    | zero =>
      intro o ho ho1 hR
      obtain rfl : o = 16 := by omega
      refine e_iload_n dX4_isField_2 rfl 1 rfl ?_
      refine e_bipush (v := 15) dX4_isField_3 rfl ?_
      refine e_icmp_gt (t := 24) dX4_isField_5 (by decide) (fun h5 => ?_) (fun h5 => ?_)
      · skip
        refine e_iconst (v := 1) dX4_isField_24 rfl ?_
        refine e_reti dX4_isField_25 ev_nw1 (Nat.le_refl _) (Nat.le_refl _) ?_
        exact ⟨(bI_t (by rw [← hR]; rfl)).symm, rfl, rfl⟩
      · skip
        exact absurd (show nI 15 < nI 16 from (i_lt (by decide) (by decide)).mpr (by omega)) h5
    | succ m ih =>
      intro o ho ho1 hR
      have e2 : gfF p (m + 1) o = if ginv p o = 0 then false else gfF p m (o + 1) := rfl
      refine e_iload_n dX4_isField_2 rfl 1 rfl ?_
      refine e_bipush (v := 15) dX4_isField_3 rfl ?_
      refine e_icmp_gt (t := 24) dX4_isField_5 (by decide) (fun h5 => ?_) (fun h5 => ?_)
      · skip
        exact absurd ((i_lt (by omega) (by omega)).mp (show nI 15 < nI o from h5)) (by omega)
      · skip
        refine e_iload_n dX4_isField_8 rfl 0 rfl ?_
        refine e_iload_n dX4_isField_9 rfl 1 rfl ?_
        refine e_callSi dX4_isField_10 cvX4_28 rfl (c4_inverseBy hp (a := o) (by omega)) (Nat.le_of_ble_eq_true rfl) (Nat.le_refl _) (Nat.le_refl _) rfl (Nat.le_of_ble_eq_true rfl) (fun r10 s10 m10 q10 => ?_)
        obtain ⟨q10, e10, g10⟩ := q10
        rw [e10, g10]
        clear e10 g10 s10 m10
        refine e_if_ne (t := 18) dX4_isField_13 (by decide) (fun h13 => ?_) (fun h13 => ?_)
        · skip
          rw [q10] at h13
          rw [if_neg (fun q => h13 (by rw [q]; rfl))] at e2
          refine e_iinc (nI (o + 1)) [(0, .int (nI p)), (1, .int (nI (o + 1)))] dX4_isField_18 1 rfl (nI_1 o) (by decide) rfl ?_
          refine e_goto (t := 2) dX4_isField_21 (by decide) ?_
          exact ih (o + 1) (by omega) (by omega) (by rw [← hR, e2])
        · skip
          rw [q10] at h13
          rw [if_pos ((i_eq (Nat.lt_of_lt_of_le (ginv_lt16 o) (by decide)) (by decide)).mp (show nI (ginv p o) = nI 0 from h13))] at e2
          refine e_iconst (v := 0) dX4_isField_16 rfl ?_
          refine e_reti dX4_isField_17 ev_nw0 (Nat.le_refl _) (Nat.le_refl _) ?_
          exact ⟨(bI_f (by rw [← hR, e2]; decide)).symm, rfl, rfl⟩
  refine e_iconst (v := 1) dX4_isField_0 rfl ?_
  refine e_istore_n [(0, .int (nI p)), (1, .int 1)] dX4_isField_1 rfl (by decide) rfl ?_
  exact loop 15 1 rfl (by decide) (gfF_eq p hp)

set_option maxRecDepth 100000 in
theorem c4_order {p : Nat} (hp : gP p) {g : Nat} (hg : g < 16) {σ : ex_S} {μ : ex_L} : Ci 3 yX4_order cX4_order 4 (some .int) [.int (nI p), .int (nI g)] TT σ μ (fun z' σ' μ' => z' = nI (gord p g) ∧ σ' = σ ∧ μ' = μ) := by
  refine Cl_of (by decide +kernel) (Nat.le_of_ble_eq_true rfl) ?_
  show Ev RX4 cX4_order 4 3 0 0 "order" (some .int) ev_ext _ _ 0 0 0 [(0, .int (nI p)), (1, .int (nI g))] [] TT σ μ
  have hp2 : 16 ≤ p ∧ p < 32 := by rcases hp with rfl | rfl | rfl <;> decide
  have loop : ∀ (m n v : Nat), n + m = 15 → 1 ≤ n → v < 16 → gordF p g m v n = gord p g → Ev RX4 cX4_order 4 3 0 0 "order" (some .int) ev_ext TT.length (fun v9 T9 σ9 μ9 => T9 = TT ∧ ∃ z9, v9 = some (.int z9) ∧ (fun z' σ' μ' => z' = nI (gord p g) ∧ σ' = σ ∧ μ' = μ) z9 σ9 μ9) 0 0 4 [(0, .int (nI p)), (1, .int (nI g)), (2, .int (nI v)), (3, .int (nI n))] [] TT σ μ := by
    intro m
    induction m with
    | zero =>
      intro n v hn hn1 hv hR
      obtain rfl : n = 15 := by omega
      refine e_iload_n dX4_order_4 rfl 2 rfl ?_
      refine e_iconst (v := 1) dX4_order_5 rfl ?_
      refine e_icmp_eq (t := 28) dX4_order_6 (by decide) (fun h6 => ?_) (fun h6 => ?_)
      · skip
        refine e_iload_n dX4_order_28 rfl 3 rfl ?_
        refine e_reti dX4_order_29 ev_nwi (Nat.le_refl _) (Nat.le_refl _) ?_
        exact ⟨by rw [← hR]; rfl, rfl, rfl⟩
      · skip
        refine e_iload_n dX4_order_9 rfl 3 rfl ?_
        refine e_bipush (v := 15) dX4_order_10 rfl ?_
        refine e_icmp_ge (t := 28) dX4_order_12 (by decide) (fun h12 => ?_) (fun h12 => ?_)
        · skip
          refine e_iload_n dX4_order_28 rfl 3 rfl ?_
          refine e_reti dX4_order_29 ev_nwi (Nat.le_refl _) (Nat.le_refl _) ?_
          exact ⟨by rw [← hR]; rfl, rfl, rfl⟩
        · skip
          exact absurd (show nI 15 ≤ nI 15 from (i_le (by decide) (by decide)).mpr (by omega)) h12
    | succ m ih =>
      intro n v hn hn1 hv hR
      have e2 : gordF p g (m + 1) v n = if v = 1 then n else gordF p g m (gmul p v g) (n + 1) := rfl
      refine e_iload_n dX4_order_4 rfl 2 rfl ?_
      refine e_iconst (v := 1) dX4_order_5 rfl ?_
      refine e_icmp_eq (t := 28) dX4_order_6 (by decide) (fun h6 => ?_) (fun h6 => ?_)
      · skip
        rw [if_pos ((i_eq (by omega) (by decide)).mp (show nI v = nI 1 from h6))] at e2
        refine e_iload_n dX4_order_28 rfl 3 rfl ?_
        refine e_reti dX4_order_29 ev_nwi (Nat.le_refl _) (Nat.le_refl _) ?_
        exact ⟨by rw [← hR, e2], rfl, rfl⟩
      · skip
        rw [if_neg (fun q => h6 (congrArg nI q))] at e2
        refine e_iload_n dX4_order_9 rfl 3 rfl ?_
        refine e_bipush (v := 15) dX4_order_10 rfl ?_
        refine e_icmp_ge (t := 28) dX4_order_12 (by decide) (fun h12 => ?_) (fun h12 => ?_)
        · skip
          exact absurd ((i_le (by omega) (by omega)).mp (show nI 15 ≤ nI n from h12)) (by omega)
        · skip
          refine e_iload_n dX4_order_15 rfl 0 rfl ?_
          refine e_iload_n dX4_order_16 rfl 2 rfl ?_
          refine e_iload_n dX4_order_17 rfl 1 rfl ?_
          refine e_callSi dX4_order_18 cvX4_32 rfl (c4_productBy (p := p) (r := v) (c := g) (by omega) (by omega) hg) (Nat.le_of_ble_eq_true rfl) (Nat.le_refl _) (Nat.le_refl _) rfl (Nat.le_of_ble_eq_true rfl) (fun r18 s18 m18 q18 => ?_)
          obtain ⟨q18, e18, g18⟩ := q18
          rw [e18, g18]
          clear e18 g18 s18 m18
          refine e_istore_n [(0, .int (nI p)), (1, .int (nI g)), (2, .int r18), (3, .int (nI n))] dX4_order_21 rfl (by decide) rfl ?_
          refine e_iinc (nI (n + 1)) [(0, .int (nI p)), (1, .int (nI g)), (2, .int r18), (3, .int (nI (n + 1)))] dX4_order_22 3 rfl (nI_1 n) (by decide) rfl ?_
          refine e_goto (t := 4) dX4_order_25 (by decide) ?_
          rw [q18, prN_small hp2 hv hg]
          exact ih (n + 1) _ (by omega) (by omega) (gmul_lt hp _ hv _ hg) (by rw [← hR, e2])
  refine e_iload_n dX4_order_0 rfl 1 rfl ?_
  refine e_istore_n [(0, .int (nI p)), (1, .int (nI g)), (2, .int (nI g))] dX4_order_1 rfl (by decide) rfl ?_
  refine e_iconst (v := 1) dX4_order_2 rfl ?_
  refine e_istore_n [(0, .int (nI p)), (1, .int (nI g)), (2, .int (nI g)), (3, .int 1)] dX4_order_3 rfl (by decide) rfl ?_
  exact loop 14 1 g rfl (by decide) hg rfl

theorem gord_le (p g : Nat) : gord p g ≤ 15 := by
  have h : ∀ m w n, n + m ≤ 15 → gordF p g m w n ≤ 15 := by
    intro m
    induction m with
    | zero => intro w n h; exact h
    | succ m ih =>
      intro w n h
      show (if w = 1 then n else gordF p g m (gmul p w g) (n + 1)) ≤ 15
      split
      · omega
      · exact ih _ _ (by omega)
  exact h 14 g 1 (by decide)

set_option maxRecDepth 100000 in
theorem c4_leastGenerator {p : Nat} (hp : gP p) {σ : ex_S} {μ : ex_L} : Ci 4 yX4_leastGenerator cX4_leastGenerator 2 (some .int) [.int (nI p)] TT σ μ (fun z' σ' μ' => z' = nI (ggen p) ∧ σ' = σ ∧ μ' = μ) := by
  refine Cl_of (by decide +kernel) (Nat.le_of_ble_eq_true rfl) ?_
  show Ev RX4 cX4_leastGenerator 2 4 0 0 "leastGenerator" (some .int) ev_ext _ _ 0 0 0 [(0, .int (nI p))] [] TT σ μ
  have loop : ∀ (m o : Nat), o + m = 16 → 1 ≤ o → ggenF p m o = ggen p → Ev RX4 cX4_leastGenerator 2 4 0 0 "leastGenerator" (some .int) ev_ext TT.length (fun v9 T9 σ9 μ9 => T9 = TT ∧ ∃ z9, v9 = some (.int z9) ∧ (fun z' σ' μ' => z' = nI (ggen p) ∧ σ' = σ ∧ μ' = μ) z9 σ9 μ9) 0 0 2 [(0, .int (nI p)), (1, .int (nI o))] [] TT σ μ := by
    intro m
    induction m with
    | zero =>
      intro o ho ho1 hR
      obtain rfl : o = 16 := by omega
      refine e_iload_n dX4_leastGenerator_2 rfl 1 rfl ?_
      refine e_bipush (v := 15) dX4_leastGenerator_3 rfl ?_
      refine e_icmp_gt (t := 26) dX4_leastGenerator_5 (by decide) (fun h5 => ?_) (fun h5 => ?_)
      · skip
        refine e_iconst (v := 0) dX4_leastGenerator_26 rfl ?_
        refine e_reti dX4_leastGenerator_27 ev_nwi (Nat.le_refl _) (Nat.le_refl _) ?_
        exact ⟨by rw [← hR]; rfl, rfl, rfl⟩
      · skip
        exact absurd (show nI 15 < nI 16 from (i_lt (by decide) (by decide)).mpr (by omega)) h5
    | succ m ih =>
      intro o ho ho1 hR
      have e2 : ggenF p (m + 1) o = if gord p o = 15 then o else ggenF p m (o + 1) := rfl
      refine e_iload_n dX4_leastGenerator_2 rfl 1 rfl ?_
      refine e_bipush (v := 15) dX4_leastGenerator_3 rfl ?_
      refine e_icmp_gt (t := 26) dX4_leastGenerator_5 (by decide) (fun h5 => ?_) (fun h5 => ?_)
      · skip
        exact absurd ((i_lt (by omega) (by omega)).mp (show nI 15 < nI o from h5)) (by omega)
      · skip
        refine e_iload_n dX4_leastGenerator_8 rfl 0 rfl ?_
        refine e_iload_n dX4_leastGenerator_9 rfl 1 rfl ?_
        refine e_callSi dX4_leastGenerator_10 cvX4_36 rfl (c4_order hp (g := o) (by omega)) (Nat.le_of_ble_eq_true rfl) (Nat.le_refl _) (Nat.le_refl _) rfl (Nat.le_of_ble_eq_true rfl) (fun r10 s10 m10 q10 => ?_)
        obtain ⟨q10, e10, g10⟩ := q10
        rw [e10, g10]
        clear e10 g10 s10 m10
        refine e_bipush (v := 15) dX4_leastGenerator_13 rfl ?_
        refine e_icmp_ne (t := 20) dX4_leastGenerator_15 (by decide) (fun h15 => ?_) (fun h15 => ?_)
        · skip
          rw [q10] at h15
          rw [if_neg (fun q => h15 (by rw [q]; rfl))] at e2
          refine e_iinc (nI (o + 1)) [(0, .int (nI p)), (1, .int (nI (o + 1)))] dX4_leastGenerator_20 1 rfl (nI_1 o) (by decide) rfl ?_
          refine e_goto (t := 2) dX4_leastGenerator_23 (by decide) ?_
          exact ih (o + 1) (by omega) (by omega) (by rw [← hR, e2])
        · skip
          rw [q10] at h15
          rw [if_pos ((i_eq (Nat.lt_of_le_of_lt (gord_le p o) (by decide)) (by decide)).mp (show nI (gord p o) = nI 15 from h15))] at e2
          refine e_iload_n dX4_leastGenerator_18 rfl 1 rfl ?_
          refine e_reti dX4_leastGenerator_19 ev_nwi (Nat.le_refl _) (Nat.le_refl _) ?_
          exact ⟨by rw [← hR, e2], rfl, rfl⟩
  refine e_iconst (v := 1) dX4_leastGenerator_0 rfl ?_
  refine e_istore_n [(0, .int (nI p)), (1, .int 1)] dX4_leastGenerator_1 rfl (by decide) rfl ?_
  exact loop 15 1 rfl (by decide) rfl

theorem gsc_small {p : Nat} (hp : gP p) {a c : Nat} (ha : a < 16) (hc : c < 16) : gsc p a c = gmul p a c := by
  rw [← prN_gsc hp (by omega) hc, prN_small (by rcases hp with rfl | rfl | rfl <;> decide) ha hc]

set_option maxRecDepth 100000 in
theorem c4_product {p : Nat} (hp : gP p) {r c : Nat} (hr : r < 2 ^ 24) (hc : c < 16) {σ : ex_S} {μ : ex_L}(hF : FC σ p)  : Ci 3 yX4_product cX4_product 3 (some .int) [.ref 1, .int (nI r), .int (nI c)] TT σ μ (fun z' σ' μ' => z' = nI (gsc p r c) ∧ σ' = σ ∧ μ' = μ) := by
  refine Cl_of (by decide +kernel) (Nat.le_of_ble_eq_true rfl) ?_
  show Ev RX4 cX4_product 3 3 0 0 "product" (some .int) ev_ext _ _ 0 0 0 [(0, .ref 1), (1, .int (nI r)), (2, .int (nI c))] [] TT σ μ
  have hp2 : 16 ≤ p ∧ p < 32 := by rcases hp with rfl | rfl | rfl <;> decide
  refine e_aload_n dX4_product_0 rfl 0 rfl ?_
  refine e_getI dX4_product_1 lkX4_17 tt_1 rfl ?_
  rw [hF.1]
  refine e_iload_n dX4_product_4 rfl 1 rfl ?_
  refine e_iload_n dX4_product_5 rfl 2 rfl ?_
  refine e_callSi dX4_product_6 cvX4_32 rfl (c4_productBy (by omega) hr hc) (Nat.le_of_ble_eq_true rfl) (Nat.le_refl _) (Nat.le_refl _) rfl (Nat.le_of_ble_eq_true rfl) (fun r6 s6 m6 q6 => ?_)
  obtain ⟨q6, e6, g6⟩ := q6
  rw [e6, g6]
  clear e6 g6 s6 m6
  refine e_reti dX4_product_9 ev_nwi (Nat.le_refl _) (Nat.le_refl _) ?_
  exact ⟨by rw [q6, prN_gsc hp hr hc], rfl, rfl⟩

theorem c4_productS {p : Nat} (hp : gP p) {a c : Nat} (ha : a < 16) (hc : c < 16) {σ : ex_S} {μ : ex_L} (hF : FC σ p) : Ci 3 yX4_product cX4_product 3 (some .int) [.ref 1, .int (nI a), .int (nI c)] TT σ μ (fun z' σ' μ' => z' = nI (gmul p a c) ∧ σ' = σ ∧ μ' = μ) := by
  have h := c4_product (μ := μ) hp (show a < 2 ^ 24 by omega) hc hF
  rwa [gsc_small hp ha hc] at h

set_option maxRecDepth 100000 in
theorem c4_power {p : Nat} (hp : gP p) {a n : Nat} (ha : a < 16) (hn : n < 2 ^ 31) {σ : ex_S} {μ : ex_L}(hF : FC σ p)  : Ci 4 yX4_power cX4_power 5 (some .int) [.ref 1, .int (nI a), .int (nI n)] TT σ μ (fun z' σ' μ' => z' = nI (gpow p a n) ∧ σ' = σ ∧ μ' = μ) := by
  refine Cl_of (by decide +kernel) (Nat.le_of_ble_eq_true rfl) ?_
  show Ev RX4 cX4_power 5 4 0 0 "power" (some .int) ev_ext _ _ 0 0 0 [(0, .ref 1), (1, .int (nI a)), (2, .int (nI n))] [] TT σ μ
  have loop : ∀ (m i : Nat), i + m = n → Ev RX4 cX4_power 5 4 0 0 "power" (some .int) ev_ext TT.length (fun v9 T9 σ9 μ9 => T9 = TT ∧ ∃ z9, v9 = some (.int z9) ∧ (fun z' σ' μ' => z' = nI (gpow p a n) ∧ σ' = σ ∧ μ' = μ) z9 σ9 μ9) 0 0 5 [(0, .ref 1), (1, .int (nI a)), (2, .int (nI n)), (3, .int (nI (gpow p a i))), (4, .int (nI i))] [] TT σ μ := by
    intro m
    induction m with
    | zero =>
      intro i hi
      obtain rfl : i = n := by omega
      refine e_iload dX4_power_5 4 rfl ?_
      refine e_iload_n dX4_power_7 rfl 2 rfl ?_
      refine e_icmp_ge (t := 24) dX4_power_8 (by decide) (fun h8 => ?_) (fun h8 => ?_)
      · skip
        refine e_iload_n dX4_power_24 rfl 3 rfl ?_
        refine e_reti dX4_power_25 ev_nwi (Nat.le_refl _) (Nat.le_refl _) ?_
        exact ⟨rfl, rfl, rfl⟩
      · skip
        exact absurd (show nI i ≤ nI i from (i_le (by omega) (by omega)).mpr (by omega)) h8
    | succ m ih =>
      intro i hi
      refine e_iload dX4_power_5 4 rfl ?_
      refine e_iload_n dX4_power_7 rfl 2 rfl ?_
      refine e_icmp_ge (t := 24) dX4_power_8 (by decide) (fun h8 => ?_) (fun h8 => ?_)
      · skip
        exact absurd ((i_le (by omega) (by omega)).mp (show nI n ≤ nI i from h8)) (by omega)
      · skip
        refine e_aload_n dX4_power_11 rfl 0 rfl ?_
        refine e_iload_n dX4_power_12 rfl 3 rfl ?_
        refine e_iload_n dX4_power_13 rfl 1 rfl ?_
        refine e_callVi dX4_power_14 cvX4_47 rfl tt_1 rfl (c4_productS hp (gpow_lt hp ha i) ha hF) (Nat.le_of_ble_eq_true rfl) (Nat.le_refl _) (Nat.le_refl _) rfl (Nat.le_of_ble_eq_true rfl) (fun r14 s14 m14 q14 => ?_)
        obtain ⟨q14, e14, g14⟩ := q14
        rw [e14, g14]
        clear e14 g14 s14 m14
        refine e_istore_n [(0, .ref 1), (1, .int (nI a)), (2, .int (nI n)), (3, .int r14), (4, .int (nI i))] dX4_power_17 rfl (by decide) rfl ?_
        refine e_iinc (nI (i + 1)) [(0, .ref 1), (1, .int (nI a)), (2, .int (nI n)), (3, .int r14), (4, .int (nI (i + 1)))] dX4_power_18 4 rfl (nI_1 i) (by decide) rfl ?_
        refine e_goto (t := 5) dX4_power_21 (by decide) ?_
        rw [q14]
        exact ih (i + 1) (by omega)
  refine e_iconst (v := 1) dX4_power_0 rfl ?_
  refine e_istore_n [(0, .ref 1), (1, .int (nI a)), (2, .int (nI n)), (3, .int 1)] dX4_power_1 rfl (by decide) rfl ?_
  refine e_iconst (v := 0) dX4_power_2 rfl ?_
  refine e_istore [(0, .ref 1), (1, .int (nI a)), (2, .int (nI n)), (3, .int 1), (4, .int 0)] dX4_power_3 (by decide) rfl ?_
  exact loop n 0 (by omega)

set_option maxRecDepth 100000 in
theorem c4_logarithm {p : Nat} (hp : gP p) {x : Nat} (hx : x < 16) {σ : ex_S} {μ : ex_L}(hF : FC σ p)  : Ci 4 yX4_logarithm cX4_logarithm 4 (some .int) [.ref 1, .int (nI x)] TT σ μ (fun z' σ' μ' => z' = nI (glog p x) ∧ σ' = σ ∧ μ' = μ) := by
  refine Cl_of (by decide +kernel) (Nat.le_of_ble_eq_true rfl) ?_
  show Ev RX4 cX4_logarithm 4 4 0 0 "logarithm" (some .int) ev_ext _ _ 0 0 0 [(0, .ref 1), (1, .int (nI x))] [] TT σ μ
  have hg := (ggen_ok hp).2.1
  have loop : ∀ (m i v : Nat), i + m = 15 → v < 16 → glogF p x m i v = glog p x → Ev RX4 cX4_logarithm 4 4 0 0 "logarithm" (some .int) ev_ext TT.length (fun v9 T9 σ9 μ9 => T9 = TT ∧ ∃ z9, v9 = some (.int z9) ∧ (fun z' σ' μ' => z' = nI (glog p x) ∧ σ' = σ ∧ μ' = μ) z9 σ9 μ9) 0 0 4 [(0, .ref 1), (1, .int (nI x)), (2, .int (nI v)), (3, .int (nI i))] [] TT σ μ := by
    intro m
    induction m with
    | zero =>
      intro i v hi hv hR
      obtain rfl : i = 15 := by omega
      refine e_iload_n dX4_logarithm_4 rfl 3 rfl ?_
      refine e_bipush (v := 15) dX4_logarithm_5 rfl ?_
      refine e_icmp_ge (t := 33) dX4_logarithm_7 (by decide) (fun h7 => ?_) (fun h7 => ?_)
      · skip
        refine e_iconst (v := 0) dX4_logarithm_33 rfl ?_
        refine e_reti dX4_logarithm_34 ev_nwi (Nat.le_refl _) (Nat.le_refl _) ?_
        exact ⟨by rw [← hR]; rfl, rfl, rfl⟩
      · skip
        exact absurd (show nI 15 ≤ nI 15 from (i_le (by decide) (by decide)).mpr (by omega)) h7
    | succ m ih =>
      intro i v hi hv hR
      have e2 : glogF p x (m + 1) i v = if v = x then i else glogF p x m (i + 1) (gmul p v (ggen p)) := rfl
      refine e_iload_n dX4_logarithm_4 rfl 3 rfl ?_
      refine e_bipush (v := 15) dX4_logarithm_5 rfl ?_
      refine e_icmp_ge (t := 33) dX4_logarithm_7 (by decide) (fun h7 => ?_) (fun h7 => ?_)
      · skip
        exact absurd ((i_le (by omega) (by omega)).mp (show nI 15 ≤ nI i from h7)) (by omega)
      · skip
        refine e_iload_n dX4_logarithm_10 rfl 2 rfl ?_
        refine e_iload_n dX4_logarithm_11 rfl 1 rfl ?_
        refine e_icmp_ne (t := 17) dX4_logarithm_12 (by decide) (fun h12 => ?_) (fun h12 => ?_)
        · skip
          rw [if_neg (fun q => h12 (congrArg nI q))] at e2
          refine e_aload_n dX4_logarithm_17 rfl 0 rfl ?_
          refine e_iload_n dX4_logarithm_18 rfl 2 rfl ?_
          refine e_aload_n dX4_logarithm_19 rfl 0 rfl ?_
          refine e_getI dX4_logarithm_20 lkX4_25 tt_1 rfl ?_
          rw [hF.2.1]
          refine e_callVi dX4_logarithm_23 cvX4_47 rfl tt_1 rfl (c4_productS hp hv hg hF) (Nat.le_of_ble_eq_true rfl) (Nat.le_refl _) (Nat.le_refl _) rfl (Nat.le_of_ble_eq_true rfl) (fun r23 s23 m23 q23 => ?_)
          obtain ⟨q23, e23, g23⟩ := q23
          rw [e23, g23]
          clear e23 g23 s23 m23
          refine e_istore_n [(0, .ref 1), (1, .int (nI x)), (2, .int r23), (3, .int (nI i))] dX4_logarithm_26 rfl (by decide) rfl ?_
          refine e_iinc (nI (i + 1)) [(0, .ref 1), (1, .int (nI x)), (2, .int r23), (3, .int (nI (i + 1)))] dX4_logarithm_27 3 rfl (nI_1 i) (by decide) rfl ?_
          refine e_goto (t := 4) dX4_logarithm_30 (by decide) ?_
          rw [q23]
          exact ih (i + 1) _ (by omega) (gmul_lt hp _ hv _ hg) (by rw [← hR, e2])
        · skip
          rw [if_pos ((i_eq (by omega) (by omega)).mp h12)] at e2
          refine e_iload_n dX4_logarithm_15 rfl 3 rfl ?_
          refine e_reti dX4_logarithm_16 ev_nwi (Nat.le_refl _) (Nat.le_refl _) ?_
          exact ⟨by rw [← hR, e2], rfl, rfl⟩
  refine e_iconst (v := 1) dX4_logarithm_0 rfl ?_
  refine e_istore_n [(0, .ref 1), (1, .int (nI x)), (2, .int 1)] dX4_logarithm_1 rfl (by decide) rfl ?_
  refine e_iconst (v := 0) dX4_logarithm_2 rfl ?_
  refine e_istore_n [(0, .ref 1), (1, .int (nI x)), (2, .int 1), (3, .int 0)] dX4_logarithm_3 rfl (by decide) rfl ?_
  exact loop 15 0 1 rfl (by decide) rfl

set_option maxRecDepth 100000 in
theorem c4_productByT {T : List ex_T} {p r c : Nat} (hp : p < 2 ^ 31) (hr : r < 2 ^ 24) (hc : c < 16) {σ : ex_S} {μ : ex_L} : Ci 2 yX4_productBy cX4_productBy 7 (some .int) [.int (nI p), .int (nI r), .int (nI c)] T σ μ (fun z' σ' μ' => z' = nI (prN p r c) ∧ σ' = σ ∧ μ' = μ) := by
  refine Cl_of (by decide +kernel) (Nat.le_of_ble_eq_true rfl) ?_
  show Ev RX4 cX4_productBy 7 2 0 0 "productBy" (some .int) ev_ext _ _ 0 0 0 [(0, .int (nI p)), (1, .int (nI r)), (2, .int (nI c))] [] T σ μ
  have loop : ∀ (m i P h : Nat), i + m = 4 → h < 2 ^ 24 → prR p c m i P h = prN p r c → Ev RX4 cX4_productBy 7 2 0 0 "productBy" (some .int) ev_ext T.length (fun v9 T9 σ9 μ9 => T9 = T ∧ ∃ z9, v9 = some (.int z9) ∧ (fun z' σ' μ' => z' = nI (prN p r c) ∧ σ' = σ ∧ μ' = μ) z9 σ9 μ9) 0 0 8 [(0, .int (nI p)), (1, .int (nI r)), (2, .int (nI c)), (3, .int (nI P)), (4, .int (nI h)), (5, .int (nI i))] [] T σ μ := by
    intro m
    induction m with
    | zero =>
      intro i P h hi hh hR
      obtain rfl : i = 4 := by omega
      refine e_iload dX4_productBy_8 5 rfl ?_
      refine e_iconst (v := 4) dX4_productBy_10 rfl ?_
      refine e_icmp_ge (t := 60) dX4_productBy_11 (by decide) (fun h11 => ?_) (fun h11 => ?_)
      · skip
        refine e_iload_n dX4_productBy_60 rfl 3 rfl ?_
        refine e_reti dX4_productBy_61 ev_nwi (Nat.le_refl _) (Nat.le_refl _) ?_
        exact ⟨by rw [← hR]; rfl, rfl, rfl⟩
      · skip
        exact absurd (show nI 4 ≤ nI 4 from (i_le (by decide) (by decide)).mpr (Nat.le_refl 4)) h11
    | succ m ih =>
      intro i P h hi hh hR
      refine e_iload dX4_productBy_8 5 rfl ?_
      refine e_iconst (v := 4) dX4_productBy_10 rfl ?_
      refine e_icmp_ge (t := 60) dX4_productBy_11 (by decide) (fun h11 => ?_) (fun h11 => ?_)
      · skip
        exact absurd ((i_le (by decide) (by omega)).mp (show nI 4 ≤ nI i from h11)) (by omega)
      · skip
        refine e_iload_n dX4_productBy_14 rfl 2 rfl ?_
        refine e_iload dX4_productBy_15 5 rfl ?_
        refine e_ishr dX4_productBy_17 ?_
        refine e_iconst (v := 1) dX4_productBy_18 rfl ?_
        refine e_iand dX4_productBy_19 ?_
        refine e_if_eq (t := 28) dX4_productBy_20 (by decide) (fun h20 => ?_) (fun h20 => ?_)
        · skip
          refine e_iload dX4_productBy_28 4 rfl ?_
          refine e_iconst (v := 3) dX4_productBy_30 rfl ?_
          refine e_iushr dX4_productBy_31 ?_
          refine e_ldc dX4_productBy_32 kcX4_39 ?_
          refine e_iand dX4_productBy_34 ?_
          refine e_name (fun x35 hx35 => ?_)
          refine e_istore [(0, .int (nI p)), (1, .int (nI r)), (2, .int (nI c)), (3, .int (nI P)), (4, .int (nI h)), (5, .int (nI i)), (6, .int x35)] dX4_productBy_35 (by decide) rfl ?_
          refine e_iload dX4_productBy_37 4 rfl ?_
          refine e_iconst (v := 1) dX4_productBy_39 rfl ?_
          refine e_ishl dX4_productBy_40 ?_
          refine e_ldc dX4_productBy_41 kcX4_40 ?_
          refine e_iand dX4_productBy_43 ?_
          refine e_iload dX4_productBy_44 6 rfl ?_
          refine e_iload_n dX4_productBy_46 rfl 0 rfl ?_
          refine e_bipush (v := 15) dX4_productBy_47 rfl ?_
          refine e_iand dX4_productBy_49 ?_
          refine e_imul dX4_productBy_50 ?_
          refine e_ixor dX4_productBy_51 ?_
          refine e_name (fun x52 hx52 => ?_)
          refine e_istore [(0, .int (nI p)), (1, .int (nI r)), (2, .int (nI c)), (3, .int (nI P)), (4, .int x52), (5, .int (nI i)), (6, .int x35)] dX4_productBy_52 (by decide) rfl ?_
          refine e_iinc (nI (i + 1)) [(0, .int (nI p)), (1, .int (nI r)), (2, .int (nI c)), (3, .int (nI P)), (4, .int x52), (5, .int (nI (i + 1))), (6, .int x35)] dX4_productBy_54 5 rfl (nI_1 i) (by decide) rfl ?_
          refine e_goto (t := 8) dX4_productBy_57 (by decide) ?_
          refine e_lv [(0, .int (nI p)), (1, .int (nI r)), (2, .int (nI c)), (3, .int (nI P)), (4, .int x52), (5, .int (nI (i + 1)))] (List.forall_mem_cons.mpr ⟨List.mem_of_getElem? (i := 0) rfl, List.forall_mem_cons.mpr ⟨List.mem_of_getElem? (i := 1) rfl, List.forall_mem_cons.mpr ⟨List.mem_of_getElem? (i := 2) rfl, List.forall_mem_cons.mpr ⟨List.mem_of_getElem? (i := 3) rfl, List.forall_mem_cons.mpr ⟨List.mem_of_getElem? (i := 4) rfl, List.forall_mem_cons.mpr ⟨List.mem_of_getElem? (i := 5) rfl, fun _ h => absurd h List.not_mem_nil⟩⟩⟩⟩⟩⟩) ?_
          subst hx52 hx35
          rw [xt_i hp hh]
          refine ih (i + 1) _ _ (by omega) (xt_lt hh) ?_
          rw [← hR]
          show _ = prR p c m (i + 1) (if c.testBit i then P ^^^ h else P) (xtN p h)
          rw [if_neg (by rw [(i_bit (by omega) (by omega)).mp h20]; decide)]
        · skip
          refine e_iload_n dX4_productBy_23 rfl 3 rfl ?_
          refine e_iload dX4_productBy_24 4 rfl ?_
          refine e_ixor dX4_productBy_26 ?_
          refine e_name (fun x27 hx27 => ?_)
          refine e_istore_n [(0, .int (nI p)), (1, .int (nI r)), (2, .int (nI c)), (3, .int x27), (4, .int (nI h)), (5, .int (nI i))] dX4_productBy_27 rfl (by decide) rfl ?_
          refine e_iload dX4_productBy_28 4 rfl ?_
          refine e_iconst (v := 3) dX4_productBy_30 rfl ?_
          refine e_iushr dX4_productBy_31 ?_
          refine e_ldc dX4_productBy_32 kcX4_39 ?_
          refine e_iand dX4_productBy_34 ?_
          refine e_name (fun x35 hx35 => ?_)
          refine e_istore [(0, .int (nI p)), (1, .int (nI r)), (2, .int (nI c)), (3, .int x27), (4, .int (nI h)), (5, .int (nI i)), (6, .int x35)] dX4_productBy_35 (by decide) rfl ?_
          refine e_iload dX4_productBy_37 4 rfl ?_
          refine e_iconst (v := 1) dX4_productBy_39 rfl ?_
          refine e_ishl dX4_productBy_40 ?_
          refine e_ldc dX4_productBy_41 kcX4_40 ?_
          refine e_iand dX4_productBy_43 ?_
          refine e_iload dX4_productBy_44 6 rfl ?_
          refine e_iload_n dX4_productBy_46 rfl 0 rfl ?_
          refine e_bipush (v := 15) dX4_productBy_47 rfl ?_
          refine e_iand dX4_productBy_49 ?_
          refine e_imul dX4_productBy_50 ?_
          refine e_ixor dX4_productBy_51 ?_
          refine e_name (fun x52 hx52 => ?_)
          refine e_istore [(0, .int (nI p)), (1, .int (nI r)), (2, .int (nI c)), (3, .int x27), (4, .int x52), (5, .int (nI i)), (6, .int x35)] dX4_productBy_52 (by decide) rfl ?_
          refine e_iinc (nI (i + 1)) [(0, .int (nI p)), (1, .int (nI r)), (2, .int (nI c)), (3, .int x27), (4, .int x52), (5, .int (nI (i + 1))), (6, .int x35)] dX4_productBy_54 5 rfl (nI_1 i) (by decide) rfl ?_
          refine e_goto (t := 8) dX4_productBy_57 (by decide) ?_
          refine e_lv [(0, .int (nI p)), (1, .int (nI r)), (2, .int (nI c)), (3, .int x27), (4, .int x52), (5, .int (nI (i + 1)))] (List.forall_mem_cons.mpr ⟨List.mem_of_getElem? (i := 0) rfl, List.forall_mem_cons.mpr ⟨List.mem_of_getElem? (i := 1) rfl, List.forall_mem_cons.mpr ⟨List.mem_of_getElem? (i := 2) rfl, List.forall_mem_cons.mpr ⟨List.mem_of_getElem? (i := 3) rfl, List.forall_mem_cons.mpr ⟨List.mem_of_getElem? (i := 4) rfl, List.forall_mem_cons.mpr ⟨List.mem_of_getElem? (i := 5) rfl, fun _ h => absurd h List.not_mem_nil⟩⟩⟩⟩⟩⟩) ?_
          subst hx27
          subst hx52 hx35
          rw [xt_i hp hh, nx_xor]
          refine ih (i + 1) _ _ (by omega) (xt_lt hh) ?_
          rw [← hR]
          show _ = prR p c m (i + 1) (if c.testBit i then P ^^^ h else P) (xtN p h)
          rw [if_pos (by cases hb : c.testBit i with
              | true => rfl
              | false => exact absurd ((i_bit (by omega) (by omega)).mpr hb) h20)]
  refine e_iconst (v := 0) dX4_productBy_0 rfl ?_
  refine e_istore_n [(0, .int (nI p)), (1, .int (nI r)), (2, .int (nI c)), (3, .int 0)] dX4_productBy_1 rfl (by decide) rfl ?_
  refine e_iload_n dX4_productBy_2 rfl 1 rfl ?_
  refine e_istore [(0, .int (nI p)), (1, .int (nI r)), (2, .int (nI c)), (3, .int 0), (4, .int (nI r))] dX4_productBy_3 (by decide) rfl ?_
  refine e_iconst (v := 0) dX4_productBy_5 rfl ?_
  refine e_istore [(0, .int (nI p)), (1, .int (nI r)), (2, .int (nI c)), (3, .int 0), (4, .int (nI r)), (5, .int 0)] dX4_productBy_6 (by decide) rfl ?_
  exact loop 4 0 0 r rfl hr (prR_eq p r c)
set_option maxRecDepth 100000 in
theorem c4_inverseByT {T : List ex_T} {p : Nat} (hp : 16 ≤ p ∧ p < 32) {a : Nat} (ha : a < 16) {σ : ex_S} {μ : ex_L} : Ci 3 yX4_inverseBy cX4_inverseBy 3 (some .int) [.int (nI p), .int (nI a)] T σ μ (fun z' σ' μ' => z' = nI (ginv p a) ∧ σ' = σ ∧ μ' = μ) := by
  refine Cl_of (by decide +kernel) (Nat.le_of_ble_eq_true rfl) ?_
  show Ev RX4 cX4_inverseBy 3 3 0 0 "inverseBy" (some .int) ev_ext _ _ 0 0 0 [(0, .int (nI p)), (1, .int (nI a))] [] T σ μ
  have loop : ∀ (m o : Nat), o + m = 16 → 1 ≤ o → ginvF p a m o = ginv p a → Ev RX4 cX4_inverseBy 3 3 0 0 "inverseBy" (some .int) ev_ext T.length (fun v9 T9 σ9 μ9 => T9 = T ∧ ∃ z9, v9 = some (.int z9) ∧ (fun z' σ' μ' => z' = nI (ginv p a) ∧ σ' = σ ∧ μ' = μ) z9 σ9 μ9) 0 0 2 [(0, .int (nI p)), (1, .int (nI a)), (2, .int (nI o))] [] T σ μ := by
    intro m
    induction m with
    | zero =>
      intro o ho ho1 hR
      obtain rfl : o = 16 := by omega
      refine e_iload_n dX4_inverseBy_2 rfl 2 rfl ?_
      refine e_bipush (v := 15) dX4_inverseBy_3 rfl ?_
      refine e_icmp_gt (t := 26) dX4_inverseBy_5 (by decide) (fun h5 => ?_) (fun h5 => ?_)
      · skip
        refine e_iconst (v := 0) dX4_inverseBy_26 rfl ?_
        refine e_reti dX4_inverseBy_27 ev_nwi (Nat.le_refl _) (Nat.le_refl _) ?_
        exact ⟨by rw [← hR]; rfl, rfl, rfl⟩
      · skip
        exact absurd (show nI 15 < nI 16 from (i_lt (by decide) (by decide)).mpr (by omega)) h5
    | succ m ih =>
      intro o ho ho1 hR
      have e2 : ginvF p a (m + 1) o = if gmul p a o = 1 then o else ginvF p a m (o + 1) := rfl
      refine e_iload_n dX4_inverseBy_2 rfl 2 rfl ?_
      refine e_bipush (v := 15) dX4_inverseBy_3 rfl ?_
      refine e_icmp_gt (t := 26) dX4_inverseBy_5 (by decide) (fun h5 => ?_) (fun h5 => ?_)
      · skip
        exact absurd ((i_lt (by omega) (by omega)).mp (show nI 15 < nI o from h5)) (by omega)
      · skip
        refine e_iload_n dX4_inverseBy_8 rfl 0 rfl ?_
        refine e_iload_n dX4_inverseBy_9 rfl 1 rfl ?_
        refine e_iload_n dX4_inverseBy_10 rfl 2 rfl ?_
        refine e_callSi dX4_inverseBy_11 cvX4_32 rfl (c4_productByT (p := p) (r := a) (c := o) (by omega) (by omega) (by omega)) (Nat.le_of_ble_eq_true rfl) (Nat.le_refl _) (Nat.le_refl _) rfl (Nat.le_of_ble_eq_true rfl) (fun r11 s11 m11 q11 => ?_)
        obtain ⟨q11, e11, g11⟩ := q11
        rw [e11, g11]
        clear e11 g11 s11 m11
        refine e_iconst (v := 1) dX4_inverseBy_14 rfl ?_
        refine e_icmp_ne (t := 20) dX4_inverseBy_15 (by decide) (fun h15 => ?_) (fun h15 => ?_)
        · skip
          rw [q11, prN_small hp ha (by omega)] at h15
          rw [if_neg (fun q => h15 (congrArg nI q))] at e2
          refine e_iinc (nI (o + 1)) [(0, .int (nI p)), (1, .int (nI a)), (2, .int (nI (o + 1)))] dX4_inverseBy_20 2 rfl (nI_1 o) (by decide) rfl ?_
          refine e_goto (t := 2) dX4_inverseBy_23 (by decide) ?_
          exact ih (o + 1) (by omega) (by omega) (by rw [← hR, e2])
        · skip
          rw [q11, prN_small hp ha (by omega)] at h15
          rw [if_pos ((i_eq (Nat.lt_of_lt_of_le (gmul_lt16 hp ha (by omega)) (by decide)) (by decide)).mp (show nI (gmul p a o) = nI 1 from h15))] at e2
          refine e_iload_n dX4_inverseBy_18 rfl 2 rfl ?_
          refine e_reti dX4_inverseBy_19 ev_nwi (Nat.le_refl _) (Nat.le_refl _) ?_
          exact ⟨by rw [← hR, e2], rfl, rfl⟩
  refine e_iconst (v := 1) dX4_inverseBy_0 rfl ?_
  refine e_istore_n [(0, .int (nI p)), (1, .int (nI a)), (2, .int 1)] dX4_inverseBy_1 rfl (by decide) rfl ?_
  exact loop 15 1 rfl (by decide) rfl
set_option maxRecDepth 100000 in
theorem c4_orderT {T : List ex_T} {p : Nat} (hp : gP p) {g : Nat} (hg : g < 16) {σ : ex_S} {μ : ex_L} : Ci 3 yX4_order cX4_order 4 (some .int) [.int (nI p), .int (nI g)] T σ μ (fun z' σ' μ' => z' = nI (gord p g) ∧ σ' = σ ∧ μ' = μ) := by
  refine Cl_of (by decide +kernel) (Nat.le_of_ble_eq_true rfl) ?_
  show Ev RX4 cX4_order 4 3 0 0 "order" (some .int) ev_ext _ _ 0 0 0 [(0, .int (nI p)), (1, .int (nI g))] [] T σ μ
  have hp2 : 16 ≤ p ∧ p < 32 := by rcases hp with rfl | rfl | rfl <;> decide
  have loop : ∀ (m n v : Nat), n + m = 15 → 1 ≤ n → v < 16 → gordF p g m v n = gord p g → Ev RX4 cX4_order 4 3 0 0 "order" (some .int) ev_ext T.length (fun v9 T9 σ9 μ9 => T9 = T ∧ ∃ z9, v9 = some (.int z9) ∧ (fun z' σ' μ' => z' = nI (gord p g) ∧ σ' = σ ∧ μ' = μ) z9 σ9 μ9) 0 0 4 [(0, .int (nI p)), (1, .int (nI g)), (2, .int (nI v)), (3, .int (nI n))] [] T σ μ := by
    intro m
    induction m with
    | zero =>
      intro n v hn hn1 hv hR
      obtain rfl : n = 15 := by omega
      refine e_iload_n dX4_order_4 rfl 2 rfl ?_
      refine e_iconst (v := 1) dX4_order_5 rfl ?_
      refine e_icmp_eq (t := 28) dX4_order_6 (by decide) (fun h6 => ?_) (fun h6 => ?_)
      · skip
        refine e_iload_n dX4_order_28 rfl 3 rfl ?_
        refine e_reti dX4_order_29 ev_nwi (Nat.le_refl _) (Nat.le_refl _) ?_
        exact ⟨by rw [← hR]; rfl, rfl, rfl⟩
      · skip
        refine e_iload_n dX4_order_9 rfl 3 rfl ?_
        refine e_bipush (v := 15) dX4_order_10 rfl ?_
        refine e_icmp_ge (t := 28) dX4_order_12 (by decide) (fun h12 => ?_) (fun h12 => ?_)
        · skip
          refine e_iload_n dX4_order_28 rfl 3 rfl ?_
          refine e_reti dX4_order_29 ev_nwi (Nat.le_refl _) (Nat.le_refl _) ?_
          exact ⟨by rw [← hR]; rfl, rfl, rfl⟩
        · skip
          exact absurd (show nI 15 ≤ nI 15 from (i_le (by decide) (by decide)).mpr (by omega)) h12
    | succ m ih =>
      intro n v hn hn1 hv hR
      have e2 : gordF p g (m + 1) v n = if v = 1 then n else gordF p g m (gmul p v g) (n + 1) := rfl
      refine e_iload_n dX4_order_4 rfl 2 rfl ?_
      refine e_iconst (v := 1) dX4_order_5 rfl ?_
      refine e_icmp_eq (t := 28) dX4_order_6 (by decide) (fun h6 => ?_) (fun h6 => ?_)
      · skip
        rw [if_pos ((i_eq (by omega) (by decide)).mp (show nI v = nI 1 from h6))] at e2
        refine e_iload_n dX4_order_28 rfl 3 rfl ?_
        refine e_reti dX4_order_29 ev_nwi (Nat.le_refl _) (Nat.le_refl _) ?_
        exact ⟨by rw [← hR, e2], rfl, rfl⟩
      · skip
        rw [if_neg (fun q => h6 (congrArg nI q))] at e2
        refine e_iload_n dX4_order_9 rfl 3 rfl ?_
        refine e_bipush (v := 15) dX4_order_10 rfl ?_
        refine e_icmp_ge (t := 28) dX4_order_12 (by decide) (fun h12 => ?_) (fun h12 => ?_)
        · skip
          exact absurd ((i_le (by omega) (by omega)).mp (show nI 15 ≤ nI n from h12)) (by omega)
        · skip
          refine e_iload_n dX4_order_15 rfl 0 rfl ?_
          refine e_iload_n dX4_order_16 rfl 2 rfl ?_
          refine e_iload_n dX4_order_17 rfl 1 rfl ?_
          refine e_callSi dX4_order_18 cvX4_32 rfl (c4_productByT (p := p) (r := v) (c := g) (by omega) (by omega) hg) (Nat.le_of_ble_eq_true rfl) (Nat.le_refl _) (Nat.le_refl _) rfl (Nat.le_of_ble_eq_true rfl) (fun r18 s18 m18 q18 => ?_)
          obtain ⟨q18, e18, g18⟩ := q18
          rw [e18, g18]
          clear e18 g18 s18 m18
          refine e_istore_n [(0, .int (nI p)), (1, .int (nI g)), (2, .int r18), (3, .int (nI n))] dX4_order_21 rfl (by decide) rfl ?_
          refine e_iinc (nI (n + 1)) [(0, .int (nI p)), (1, .int (nI g)), (2, .int r18), (3, .int (nI (n + 1)))] dX4_order_22 3 rfl (nI_1 n) (by decide) rfl ?_
          refine e_goto (t := 4) dX4_order_25 (by decide) ?_
          rw [q18, prN_small hp2 hv hg]
          exact ih (n + 1) _ (by omega) (by omega) (gmul_lt hp _ hv _ hg) (by rw [← hR, e2])
  refine e_iload_n dX4_order_0 rfl 1 rfl ?_
  refine e_istore_n [(0, .int (nI p)), (1, .int (nI g)), (2, .int (nI g))] dX4_order_1 rfl (by decide) rfl ?_
  refine e_iconst (v := 1) dX4_order_2 rfl ?_
  refine e_istore_n [(0, .int (nI p)), (1, .int (nI g)), (2, .int (nI g)), (3, .int 1)] dX4_order_3 rfl (by decide) rfl ?_
  exact loop 14 1 g rfl (by decide) hg rfl
set_option maxRecDepth 100000 in
theorem c4_leastGeneratorT {T : List ex_T} {p : Nat} (hp : gP p) {σ : ex_S} {μ : ex_L} : Ci 4 yX4_leastGenerator cX4_leastGenerator 2 (some .int) [.int (nI p)] T σ μ (fun z' σ' μ' => z' = nI (ggen p) ∧ σ' = σ ∧ μ' = μ) := by
  refine Cl_of (by decide +kernel) (Nat.le_of_ble_eq_true rfl) ?_
  show Ev RX4 cX4_leastGenerator 2 4 0 0 "leastGenerator" (some .int) ev_ext _ _ 0 0 0 [(0, .int (nI p))] [] T σ μ
  have loop : ∀ (m o : Nat), o + m = 16 → 1 ≤ o → ggenF p m o = ggen p → Ev RX4 cX4_leastGenerator 2 4 0 0 "leastGenerator" (some .int) ev_ext T.length (fun v9 T9 σ9 μ9 => T9 = T ∧ ∃ z9, v9 = some (.int z9) ∧ (fun z' σ' μ' => z' = nI (ggen p) ∧ σ' = σ ∧ μ' = μ) z9 σ9 μ9) 0 0 2 [(0, .int (nI p)), (1, .int (nI o))] [] T σ μ := by
    intro m
    induction m with
    | zero =>
      intro o ho ho1 hR
      obtain rfl : o = 16 := by omega
      refine e_iload_n dX4_leastGenerator_2 rfl 1 rfl ?_
      refine e_bipush (v := 15) dX4_leastGenerator_3 rfl ?_
      refine e_icmp_gt (t := 26) dX4_leastGenerator_5 (by decide) (fun h5 => ?_) (fun h5 => ?_)
      · skip
        refine e_iconst (v := 0) dX4_leastGenerator_26 rfl ?_
        refine e_reti dX4_leastGenerator_27 ev_nwi (Nat.le_refl _) (Nat.le_refl _) ?_
        exact ⟨by rw [← hR]; rfl, rfl, rfl⟩
      · skip
        exact absurd (show nI 15 < nI 16 from (i_lt (by decide) (by decide)).mpr (by omega)) h5
    | succ m ih =>
      intro o ho ho1 hR
      have e2 : ggenF p (m + 1) o = if gord p o = 15 then o else ggenF p m (o + 1) := rfl
      refine e_iload_n dX4_leastGenerator_2 rfl 1 rfl ?_
      refine e_bipush (v := 15) dX4_leastGenerator_3 rfl ?_
      refine e_icmp_gt (t := 26) dX4_leastGenerator_5 (by decide) (fun h5 => ?_) (fun h5 => ?_)
      · skip
        exact absurd ((i_lt (by omega) (by omega)).mp (show nI 15 < nI o from h5)) (by omega)
      · skip
        refine e_iload_n dX4_leastGenerator_8 rfl 0 rfl ?_
        refine e_iload_n dX4_leastGenerator_9 rfl 1 rfl ?_
        refine e_callSi dX4_leastGenerator_10 cvX4_36 rfl (c4_orderT hp (g := o) (by omega)) (Nat.le_of_ble_eq_true rfl) (Nat.le_refl _) (Nat.le_refl _) rfl (Nat.le_of_ble_eq_true rfl) (fun r10 s10 m10 q10 => ?_)
        obtain ⟨q10, e10, g10⟩ := q10
        rw [e10, g10]
        clear e10 g10 s10 m10
        refine e_bipush (v := 15) dX4_leastGenerator_13 rfl ?_
        refine e_icmp_ne (t := 20) dX4_leastGenerator_15 (by decide) (fun h15 => ?_) (fun h15 => ?_)
        · skip
          rw [q10] at h15
          rw [if_neg (fun q => h15 (by rw [q]; rfl))] at e2
          refine e_iinc (nI (o + 1)) [(0, .int (nI p)), (1, .int (nI (o + 1)))] dX4_leastGenerator_20 1 rfl (nI_1 o) (by decide) rfl ?_
          refine e_goto (t := 2) dX4_leastGenerator_23 (by decide) ?_
          exact ih (o + 1) (by omega) (by omega) (by rw [← hR, e2])
        · skip
          rw [q10] at h15
          rw [if_pos ((i_eq (Nat.lt_of_le_of_lt (gord_le p o) (by decide)) (by decide)).mp (show nI (gord p o) = nI 15 from h15))] at e2
          refine e_iload_n dX4_leastGenerator_18 rfl 1 rfl ?_
          refine e_reti dX4_leastGenerator_19 ev_nwi (Nat.le_refl _) (Nat.le_refl _) ?_
          exact ⟨by rw [← hR, e2], rfl, rfl⟩
  refine e_iconst (v := 1) dX4_leastGenerator_0 rfl ?_
  refine e_istore_n [(0, .int (nI p)), (1, .int 1)] dX4_leastGenerator_1 rfl (by decide) rfl ?_
  exact loop 15 1 rfl (by decide) rfl

set_option maxRecDepth 100000 in
theorem c4_choose {p : Nat} (hp : gP p) {T : List ex_T} (hT : NumbersAt T) {σ : ex_S} {μ : ex_L} : Cv 5 yX4_choose cX4_choose 3 none [.ref 1, .int (nI p)] T σ μ (fun σ' μ' => FC σ' p ∧ (∀ i, i ≠ 1 → i ≠ 2 → σ' i = σ i) ∧ μ' = μ) := by
  refine Cl_of (by decide +kernel) (Nat.le_of_ble_eq_true rfl) ?_
  show Ev RX4 cX4_choose 3 5 0 0 "choose" none ev_ext _ _ 0 0 0 [(0, .ref 1), (1, .int (nI p))] [] T σ μ
  have hp2 : 16 ≤ p ∧ p < 32 := by rcases hp with rfl | rfl | rfl <;> decide
  have loop : ∀ (m i : Nat) (σ1 : ex_S), i + m = 16 → i ≤ 16 → σ1 1 0 = nI p → σ1 1 1 = nI (ggen p) → (∀ j, j < i → σ1 2 j = nI (ginv p j)) → (∀ i, i ≠ 1 → i ≠ 2 → σ1 i = σ i) → Ev RX4 cX4_choose 3 5 0 0 "choose" none ev_ext T.length (fun v9 T9 σ9 μ9 => T9 = T ∧ v9 = none ∧ (fun σ' μ' => FC σ' p ∧ (∀ i, i ≠ 1 → i ≠ 2 → σ' i = σ i) ∧ μ' = μ) σ9 μ9) 0 0 15 [(0, .ref 1), (1, .int (nI p)), (2, .int (nI i))] [] T σ1 μ := by
    intro m
    induction m with
    | zero =>
      intro i σ1 hi hi2 g1 g2 g3 g4
      obtain rfl : i = 16 := by omega
      refine e_iload_n dX4_choose_15 rfl 2 rfl ?_
      refine e_aload_n dX4_choose_16 rfl 0 rfl ?_
      refine e_getR dX4_choose_17 lkX4_7 (numbers_0 hT) rfl ?_
      refine e_alen dX4_choose_20 (numbers_1 hT) (Nat.le_of_ble_eq_true rfl) ?_
      refine e_icmp_ge (t := 41) dX4_choose_21 (by decide) (fun h21 => ?_) (fun h21 => ?_)
      · skip
        refine e_retv dX4_choose_41 (Nat.le_refl _) (Nat.le_refl _) ?_
        exact ⟨⟨g1, g2, g3⟩, g4, rfl⟩
      · skip
        exact absurd (show nI 16 ≤ nI 16 from (i_le (by decide) (by decide)).mpr (Nat.le_refl 16)) h21
    | succ m ih =>
      intro i σ1 hi hi2 g1 g2 g3 g4
      refine e_iload_n dX4_choose_15 rfl 2 rfl ?_
      refine e_aload_n dX4_choose_16 rfl 0 rfl ?_
      refine e_getR dX4_choose_17 lkX4_7 (numbers_0 hT) rfl ?_
      refine e_alen dX4_choose_20 (numbers_1 hT) (Nat.le_of_ble_eq_true rfl) ?_
      refine e_icmp_ge (t := 41) dX4_choose_21 (by decide) (fun h21 => ?_) (fun h21 => ?_)
      · skip
        exact absurd ((i_le (by omega) (by omega)).mp (show nI 16 ≤ nI i from h21)) (by omega)
      · skip
        refine e_aload_n dX4_choose_24 rfl 0 rfl ?_
        refine e_getR dX4_choose_25 lkX4_7 (numbers_0 hT) rfl ?_
        refine e_iload_n dX4_choose_28 rfl 2 rfl ?_
        refine e_iload_n dX4_choose_29 rfl 1 rfl ?_
        refine e_iload_n dX4_choose_30 rfl 2 rfl ?_
        refine e_callSi dX4_choose_31 cvX4_28 rfl (c4_inverseByT hp2 (a := i) (by omega)) (Nat.le_of_ble_eq_true rfl) (Nat.le_refl _) (Nat.le_refl _) rfl (Nat.le_of_ble_eq_true rfl) (fun r31 s31 m31 q31 => ?_)
        obtain ⟨q31, e31, g31⟩ := q31
        rw [e31, g31]
        clear e31 g31 s31 m31
        refine e_iast dX4_choose_34 (numbers_1 hT) (vp_in_nI (by omega) (by decide)) ?_
        refine e_iinc (nI (i + 1)) [(0, .ref 1), (1, .int (nI p)), (2, .int (nI (i + 1)))] dX4_choose_35 2 rfl (nI_1 i) (by decide) rfl ?_
        refine e_goto (t := 15) dX4_choose_38 (by decide) ?_
        rw [i_cl (by omega), q31]
        refine ih (i + 1) _ (by omega) (by omega) (by rw [sup_obj (by decide)]; exact g1) (by rw [sup_obj (by decide)]; exact g2) (fun j hj => ?_) (fun k h1 h2 => by rw [sup_obj h2]; exact g4 k h1 h2)
        by_cases e : j = i
        · rw [e, sup_same]
        · rw [sup_idx e]
          exact g3 j (by omega)
  refine e_aload_n dX4_choose_0 rfl 0 rfl ?_
  refine e_iload_n dX4_choose_1 rfl 1 rfl ?_
  refine e_putI dX4_choose_2 lkX4_17' (numbers_0 hT) rfl rfl rfl ?_
  refine e_aload_n dX4_choose_5 rfl 0 rfl ?_
  refine e_iload_n dX4_choose_6 rfl 1 rfl ?_
  refine e_callSi dX4_choose_7 cvX4_21 rfl (c4_leastGeneratorT hp) (Nat.le_of_ble_eq_true rfl) (Nat.le_refl _) (Nat.le_refl _) rfl (Nat.le_of_ble_eq_true rfl) (fun r7 s7 m7 q7 => ?_)
  obtain ⟨q7, e7, g7⟩ := q7
  rw [e7, g7]
  clear e7 g7 s7 m7
  refine e_putI dX4_choose_10 lkX4_25' (numbers_0 hT) rfl rfl rfl ?_
  refine e_iconst (v := 0) dX4_choose_13 rfl ?_
  refine e_istore_n [(0, .ref 1), (1, .int (nI p)), (2, .int 0)] dX4_choose_14 rfl (by decide) rfl ?_
  rw [q7]
  exact loop 16 0 _ rfl (by decide) (by rw [sup_idx (by decide), sup_same]) sup_same (fun j hj => absurd hj (by omega)) (fun i h1 h2 => by rw [sup_obj h1, sup_obj h1])
