set_option maxRecDepth 100000 in
theorem c4_productBy {p r c : Nat} (hp : p < 2 ^ 31) (hr : r < 2 ^ 24) (hc : c < 16) {σ : ex_S} {μ : ex_L} : Ci 2 yX4_productBy cX4_productBy 7 (some .int) [.int (nI p), .int (nI r), .int (nI c)] TT σ μ (fun z' σ' μ' => z' = nI (prN p r c) ∧ σ' = σ ∧ μ' = μ) := by
  refine Cl_of (by decide +kernel) (Nat.le_of_ble_eq_true rfl) ?_
  show Ev RX4 cX4_productBy 7 2 0 0 "productBy" (some .int) ev_ext _ _ 0 0 0 [(0, .int (nI p)), (1, .int (nI r)), (2, .int (nI c))] [] TT σ μ
  have loop : ∀ (m i P h : Nat), i + m = 4 → h < 2 ^ 24 → prR p c m i P h = prN p r c → Ev RX4 cX4_productBy 7 2 0 0 "productBy" (some .int) ev_ext TT.length (fun v9 T9 σ9 μ9 => T9 = TT ∧ ∃ z9, v9 = some (.int z9) ∧ (fun z' σ' μ' => z' = nI (prN p r c) ∧ σ' = σ ∧ μ' = μ) z9 σ9 μ9) 0 0 8 [(0, .int (nI p)), (1, .int (nI r)), (2, .int (nI c)), (3, .int (nI P)), (4, .int (nI h)), (5, .int (nI i))] [] TT σ μ := by
    intro m
    induction m with
    | zero =>
      intro i P h hi hh hR
      obtain rfl : i = 4 := by omega
      refine e_iload dX4_productBy_8 5 rfl ?_
      refine e_iconst (v := 4) dX4_productBy_10 rfl ?_
      refine e_icmp_ge (t := 60) dX4_productBy_11 (by decide) (fun h11 => ?_) (fun h11 => ?_)
      · skip
        refine e_iload_n dX4_productBy_60 rfl 3 rfl ?_
        refine e_reti dX4_productBy_61 ev_nwi (Nat.le_refl _) (Nat.le_refl _) ?_
        exact ⟨by rw [← hR]; rfl, rfl, rfl⟩
      · skip
        exact absurd (show nI 4 ≤ nI 4 from (i_le (by decide) (by decide)).mpr (Nat.le_refl 4)) h11
    | succ m ih =>
      intro i P h hi hh hR
      refine e_iload dX4_productBy_8 5 rfl ?_
      refine e_iconst (v := 4) dX4_productBy_10 rfl ?_
      refine e_icmp_ge (t := 60) dX4_productBy_11 (by decide) (fun h11 => ?_) (fun h11 => ?_)
      · skip
        exact absurd ((i_le (by decide) (by omega)).mp (show nI 4 ≤ nI i from h11)) (by omega)
      · skip
        refine e_iload_n dX4_productBy_14 rfl 2 rfl ?_
        refine e_iload dX4_productBy_15 5 rfl ?_
        refine e_ishr dX4_productBy_17 ?_
        refine e_iconst (v := 1) dX4_productBy_18 rfl ?_
        refine e_iand dX4_productBy_19 ?_
        refine e_if_eq (t := 28) dX4_productBy_20 (by decide) (fun h20 => ?_) (fun h20 => ?_)
        · skip
          refine e_iload dX4_productBy_28 4 rfl ?_
          refine e_iconst (v := 3) dX4_productBy_30 rfl ?_
          refine e_iushr dX4_productBy_31 ?_
          refine e_ldc dX4_productBy_32 kcX4_39 ?_
          refine e_iand dX4_productBy_34 ?_
          refine e_name (fun x35 hx35 => ?_)
          refine e_istore [(0, .int (nI p)), (1, .int (nI r)), (2, .int (nI c)), (3, .int (nI P)), (4, .int (nI h)), (5, .int (nI i)), (6, .int x35)] dX4_productBy_35 (by decide) rfl ?_
          refine e_iload dX4_productBy_37 4 rfl ?_
          refine e_iconst (v := 1) dX4_productBy_39 rfl ?_
          refine e_ishl dX4_productBy_40 ?_
          refine e_ldc dX4_productBy_41 kcX4_40 ?_
          refine e_iand dX4_productBy_43 ?_
          refine e_iload dX4_productBy_44 6 rfl ?_
          refine e_iload_n dX4_productBy_46 rfl 0 rfl ?_
          refine e_bipush (v := 15) dX4_productBy_47 rfl ?_
          refine e_iand dX4_productBy_49 ?_
          refine e_imul dX4_productBy_50 ?_
          refine e_ixor dX4_productBy_51 ?_
          refine e_name (fun x52 hx52 => ?_)
          refine e_istore [(0, .int (nI p)), (1, .int (nI r)), (2, .int (nI c)), (3, .int (nI P)), (4, .int x52), (5, .int (nI i)), (6, .int x35)] dX4_productBy_52 (by decide) rfl ?_
          refine e_iinc (nI (i + 1)) [(0, .int (nI p)), (1, .int (nI r)), (2, .int (nI c)), (3, .int (nI P)), (4, .int x52), (5, .int (nI (i + 1))), (6, .int x35)] dX4_productBy_54 5 rfl (nI_1 i) (by decide) rfl ?_
          refine e_goto (t := 8) dX4_productBy_57 (by decide) ?_
          refine e_lv [(0, .int (nI p)), (1, .int (nI r)), (2, .int (nI c)), (3, .int (nI P)), (4, .int x52), (5, .int (nI (i + 1)))] (List.forall_mem_cons.mpr ⟨List.mem_of_getElem? (i := 0) rfl, List.forall_mem_cons.mpr ⟨List.mem_of_getElem? (i := 1) rfl, List.forall_mem_cons.mpr ⟨List.mem_of_getElem? (i := 2) rfl, List.forall_mem_cons.mpr ⟨List.mem_of_getElem? (i := 3) rfl, List.forall_mem_cons.mpr ⟨List.mem_of_getElem? (i := 4) rfl, List.forall_mem_cons.mpr ⟨List.mem_of_getElem? (i := 5) rfl, fun _ h => absurd h List.not_mem_nil⟩⟩⟩⟩⟩⟩) ?_
          subst hx52 hx35
          rw [xt_i hp hh]
          refine ih (i + 1) _ _ (by omega) (xt_lt hh) ?_
          rw [← hR]
          show _ = prR p c m (i + 1) (if c.testBit i then P ^^^ h else P) (xtN p h)
          rw [if_neg (by rw [(i_bit (by omega) (by omega)).mp h20]; decide)]
        · skip
          refine e_iload_n dX4_productBy_23 rfl 3 rfl ?_
          refine e_iload dX4_productBy_24 4 rfl ?_
          refine e_ixor dX4_productBy_26 ?_
          refine e_name (fun x27 hx27 => ?_)
          refine e_istore_n [(0, .int (nI p)), (1, .int (nI r)), (2, .int (nI c)), (3, .int x27), (4, .int (nI h)), (5, .int (nI i))] dX4_productBy_27 rfl (by decide) rfl ?_
          refine e_iload dX4_productBy_28 4 rfl ?_
          refine e_iconst (v := 3) dX4_productBy_30 rfl ?_
          refine e_iushr dX4_productBy_31 ?_
          refine e_ldc dX4_productBy_32 kcX4_39 ?_
          refine e_iand dX4_productBy_34 ?_
          refine e_name (fun x35 hx35 => ?_)
          refine e_istore [(0, .int (nI p)), (1, .int (nI r)), (2, .int (nI c)), (3, .int x27), (4, .int (nI h)), (5, .int (nI i)), (6, .int x35)] dX4_productBy_35 (by decide) rfl ?_
          refine e_iload dX4_productBy_37 4 rfl ?_
          refine e_iconst (v := 1) dX4_productBy_39 rfl ?_
          refine e_ishl dX4_productBy_40 ?_
          refine e_ldc dX4_productBy_41 kcX4_40 ?_
          refine e_iand dX4_productBy_43 ?_
          refine e_iload dX4_productBy_44 6 rfl ?_
          refine e_iload_n dX4_productBy_46 rfl 0 rfl ?_
          refine e_bipush (v := 15) dX4_productBy_47 rfl ?_
          refine e_iand dX4_productBy_49 ?_
          refine e_imul dX4_productBy_50 ?_
          refine e_ixor dX4_productBy_51 ?_
          refine e_name (fun x52 hx52 => ?_)
          refine e_istore [(0, .int (nI p)), (1, .int (nI r)), (2, .int (nI c)), (3, .int x27), (4, .int x52), (5, .int (nI i)), (6, .int x35)] dX4_productBy_52 (by decide) rfl ?_
          refine e_iinc (nI (i + 1)) [(0, .int (nI p)), (1, .int (nI r)), (2, .int (nI c)), (3, .int x27), (4, .int x52), (5, .int (nI (i + 1))), (6, .int x35)] dX4_productBy_54 5 rfl (nI_1 i) (by decide) rfl ?_
          refine e_goto (t := 8) dX4_productBy_57 (by decide) ?_
          refine e_lv [(0, .int (nI p)), (1, .int (nI r)), (2, .int (nI c)), (3, .int x27), (4, .int x52), (5, .int (nI (i + 1)))] (List.forall_mem_cons.mpr ⟨List.mem_of_getElem? (i := 0) rfl, List.forall_mem_cons.mpr ⟨List.mem_of_getElem? (i := 1) rfl, List.forall_mem_cons.mpr ⟨List.mem_of_getElem? (i := 2) rfl, List.forall_mem_cons.mpr ⟨List.mem_of_getElem? (i := 3) rfl, List.forall_mem_cons.mpr ⟨List.mem_of_getElem? (i := 4) rfl, List.forall_mem_cons.mpr ⟨List.mem_of_getElem? (i := 5) rfl, fun _ h => absurd h List.not_mem_nil⟩⟩⟩⟩⟩⟩) ?_
          subst hx27
          subst hx52 hx35
          rw [xt_i hp hh, nx_xor]
          refine ih (i + 1) _ _ (by omega) (xt_lt hh) ?_
          rw [← hR]
          show _ = prR p c m (i + 1) (if c.testBit i then P ^^^ h else P) (xtN p h)
          rw [if_pos (by cases hb : c.testBit i with
              | true => rfl
              | false => exact absurd ((i_bit (by omega) (by omega)).mpr hb) h20)]
  refine e_iconst (v := 0) dX4_productBy_0 rfl ?_
  refine e_istore_n [(0, .int (nI p)), (1, .int (nI r)), (2, .int (nI c)), (3, .int 0)] dX4_productBy_1 rfl (by decide) rfl ?_
  refine e_iload_n dX4_productBy_2 rfl 1 rfl ?_
  refine e_istore [(0, .int (nI p)), (1, .int (nI r)), (2, .int (nI c)), (3, .int 0), (4, .int (nI r))] dX4_productBy_3 (by decide) rfl ?_
  refine e_iconst (v := 0) dX4_productBy_5 rfl ?_
  refine e_istore [(0, .int (nI p)), (1, .int (nI r)), (2, .int (nI c)), (3, .int 0), (4, .int (nI r)), (5, .int 0)] dX4_productBy_6 (by decide) rfl ?_
  exact loop 4 0 0 r rfl hr (prR_eq p r c)

set_option maxRecDepth 100000 in
theorem c11_product {p a b : Nat} (hp : p < 32) (ha : a < 16) (hb : b < 16) {σ : ex_S} {μ : ex_L} : Ci 3 yX11_product cX11_product 5 (some .int) [.int (nI a), .int (nI b), .int (nI p)] TT σ μ (fun z' σ' μ' => z' = nI (gmul p a b) ∧ σ' = σ ∧ μ' = μ) := by
  refine Cl_of (by decide +kernel) (Nat.le_of_ble_eq_true rfl) ?_
  show Ev RX11 cX11_product 5 3 0 0 "product" (some .int) ev_ext _ _ 0 0 0 [(0, .int (nI a)), (1, .int (nI b)), (2, .int (nI p))] [] TT σ μ
  have loop2 : ∀ (m S : Nat), m ≤ 3 → S < 2 ^ 7 → pdB p m S = gmul p a b → Ev RX11 cX11_product 5 3 0 0 "product" (some .int) ev_ext TT.length (fun v9 T9 σ9 μ9 => T9 = TT ∧ ∃ z9, v9 = some (.int z9) ∧ (fun z' σ' μ' => z' = nI (gmul p a b) ∧ σ' = σ ∧ μ' = μ) z9 σ9 μ9) 0 0 37 [(0, .int (nI a)), (1, .int (nI b)), (2, .int (nI p)), (3, .int (nI S)), (4, .int (nI (m + 3)))] [] TT σ μ := by
    intro m
    induction m with
    | zero =>
      intro S hm hS hR
      refine e_iload dX11_product_37 4 rfl ?_
      refine e_iconst (v := 4) dX11_product_39 rfl ?_
      refine e_icmp_lt (t := 67) dX11_product_40 (by decide) (fun h40 => ?_) (fun h40 => ?_)
      · skip
        refine e_iload_n dX11_product_67 rfl 3 rfl ?_
        refine e_reti dX11_product_68 ev_nwi (Nat.le_refl _) (Nat.le_refl _) ?_
        exact ⟨by rw [← hR]; rfl, rfl, rfl⟩
      · skip
        exact absurd (show nI 3 < nI 4 from (i_lt (by decide) (by decide)).mpr (by decide)) h40
    | succ m ih =>
      intro S hm hS hR
      refine e_iload dX11_product_37 4 rfl ?_
      refine e_iconst (v := 4) dX11_product_39 rfl ?_
      refine e_icmp_lt (t := 67) dX11_product_40 (by decide) (fun h40 => ?_) (fun h40 => ?_)
      · skip
        exact absurd ((i_lt (by omega) (by decide)).mp (show nI (m + 1 + 3) < nI 4 from h40)) (by omega)
      · skip
        refine e_iload_n dX11_product_43 rfl 3 rfl ?_
        refine e_iload dX11_product_44 4 rfl ?_
        refine e_callSi dX11_product_46 cvX11_103 rfl (c11_isIn (nI S) (nI (m + 1 + 3))) (Nat.le_of_ble_eq_true rfl) (Nat.le_refl _) (Nat.le_refl _) rfl (Nat.le_of_ble_eq_true rfl) (fun r46 s46 m46 q46 => ?_)
        obtain ⟨q46, rfl, rfl⟩ := q46
        refine e_if_eq (t := 61) dX11_product_49 (by decide) (fun h49 => ?_) (fun h49 => ?_)
        · skip
          refine e_iinc (nI (m + 3)) [(0, .int (nI a)), (1, .int (nI b)), (2, .int (nI p)), (3, .int (nI S)), (4, .int (nI (m + 3)))] dX11_product_61 4 rfl (show nI (m + 1 + 3) + (-1) = nI (m + 3) from pk_m1 (m + 3)) (by decide) rfl ?_
          refine e_goto (t := 37) dX11_product_64 (by decide) ?_
          rw [q46, bI_eq0, i_bit1 (by omega) (by omega)] at h49
          refine ih _ (by omega) ?_ ?_
          · exact hS
          · rw [← hR]
            show _ = pdB p m (if S.testBit (m + 4) then S ^^^ (p * 2 ^ m) else S)
            rw [if_neg (fun q => h49 (by rw [show m + 1 + 3 = m + 4 by omega]; exact q))]
        · skip
          refine e_iload_n dX11_product_52 rfl 3 rfl ?_
          refine e_iload_n dX11_product_53 rfl 2 rfl ?_
          refine e_iload dX11_product_54 4 rfl ?_
          refine e_iconst (v := 4) dX11_product_56 rfl ?_
          refine e_isub dX11_product_57 ?_
          refine e_ishl dX11_product_58 ?_
          refine e_ixor dX11_product_59 ?_
          refine e_name (fun x60 hx60 => ?_)
          refine e_istore_n [(0, .int (nI a)), (1, .int (nI b)), (2, .int (nI p)), (3, .int x60), (4, .int (nI (m + 1 + 3)))] dX11_product_60 rfl (by decide) rfl ?_
          refine e_iinc (nI (m + 3)) [(0, .int (nI a)), (1, .int (nI b)), (2, .int (nI p)), (3, .int x60), (4, .int (nI (m + 3)))] dX11_product_61 4 rfl (show nI (m + 1 + 3) + (-1) = nI (m + 3) from pk_m1 (m + 3)) (by decide) rfl ?_
          refine e_goto (t := 37) dX11_product_64 (by decide) ?_
          subst hx60
          have e1 : nI (m + 1 + 3) - 4 = nI m := (i_sub (a := m + 1 + 3) (b := 4) (by omega)).trans (congrArg nI (by omega))
          have hpm : p * 2 ^ m ≤ 31 * 2 ^ 2 := Nat.mul_le_mul (by omega) (Nat.pow_le_pow_right (by decide) (by omega))
          rw [e1, i_shl (by omega) (by omega), nx_xor]
          rw [q46, bI_eq0, i_bit1 (by omega) (by omega)] at h49
          refine ih _ (by omega) ?_ ?_
          · exact Nat.xor_lt_two_pow hS (by omega)
          · rw [← hR]
            show _ = pdB p m (if S.testBit (m + 4) then S ^^^ (p * 2 ^ m) else S)
            rw [if_pos (by cases hb9 : S.testBit (m + 4) with
              | true => rfl
              | false => exact absurd (fun q => by rw [show m + 1 + 3 = m + 4 by omega, hb9] at q; cases q) h49)]
  have loop1 : ∀ (m i S : Nat), i + m = 4 → S < 2 ^ 7 → pdB p 3 (pdA a b m i S) = gmul p a b → Ev RX11 cX11_product 5 3 0 0 "product" (some .int) ev_ext TT.length (fun v9 T9 σ9 μ9 => T9 = TT ∧ ∃ z9, v9 = some (.int z9) ∧ (fun z' σ' μ' => z' = nI (gmul p a b) ∧ σ' = σ ∧ μ' = μ) z9 σ9 μ9) 0 0 5 [(0, .int (nI a)), (1, .int (nI b)), (2, .int (nI p)), (3, .int (nI S)), (4, .int (nI i))] [] TT σ μ := by
    intro m
    induction m with
    | zero =>
      intro i S hi hS hR
      obtain rfl : i = 4 := by omega
      refine e_iload dX11_product_5 4 rfl ?_
      refine e_iconst (v := 4) dX11_product_7 rfl ?_
      refine e_icmp_ge (t := 33) dX11_product_8 (by decide) (fun h8 => ?_) (fun h8 => ?_)
      · skip
        refine e_bipush (v := 6) dX11_product_33 rfl ?_
        refine e_istore [(0, .int (nI a)), (1, .int (nI b)), (2, .int (nI p)), (3, .int (nI S)), (4, .int 6)] dX11_product_35 (by decide) rfl ?_
        exact loop2 3 S (Nat.le_refl 3) hS hR
      · skip
        exact absurd (show nI 4 ≤ nI 4 from (i_le (by decide) (by decide)).mpr (Nat.le_refl 4)) h8
    | succ m ih =>
      intro i S hi hS hR
      have hbi : b * 2 ^ i ≤ 15 * 2 ^ 3 := Nat.mul_le_mul (by omega) (Nat.pow_le_pow_right (by decide) (by omega))
      refine e_iload dX11_product_5 4 rfl ?_
      refine e_iconst (v := 4) dX11_product_7 rfl ?_
      refine e_icmp_ge (t := 33) dX11_product_8 (by decide) (fun h8 => ?_) (fun h8 => ?_)
      · skip
        exact absurd ((i_le (by decide) (by omega)).mp (show nI 4 ≤ nI i from h8)) (by omega)
      · skip
        refine e_iload_n dX11_product_11 rfl 0 rfl ?_
        refine e_iload dX11_product_12 4 rfl ?_
        refine e_callSi dX11_product_14 cvX11_103 rfl (c11_isIn (nI a) (nI i)) (Nat.le_of_ble_eq_true rfl) (Nat.le_refl _) (Nat.le_refl _) rfl (Nat.le_of_ble_eq_true rfl) (fun r14 s14 m14 q14 => ?_)
        obtain ⟨q14, rfl, rfl⟩ := q14
        refine e_if_eq (t := 27) dX11_product_17 (by decide) (fun h17 => ?_) (fun h17 => ?_)
        · skip
          refine e_iinc (nI (i + 1)) [(0, .int (nI a)), (1, .int (nI b)), (2, .int (nI p)), (3, .int (nI S)), (4, .int (nI (i + 1)))] dX11_product_27 4 rfl (nI_1 i) (by decide) rfl ?_
          refine e_goto (t := 5) dX11_product_30 (by decide) ?_
          rw [q14, bI_eq0, i_bit1 (by omega) (by omega)] at h17
          refine ih (i + 1) _ (by omega) ?_ ?_
          · exact hS
          · rw [← hR]
            show _ = pdB p 3 (pdA a b m (i + 1) (if a.testBit i then S ^^^ (b * 2 ^ i) else S))
            rw [if_neg h17]
        · skip
          refine e_iload_n dX11_product_20 rfl 3 rfl ?_
          refine e_iload_n dX11_product_21 rfl 1 rfl ?_
          refine e_iload dX11_product_22 4 rfl ?_
          refine e_ishl dX11_product_24 ?_
          refine e_ixor dX11_product_25 ?_
          refine e_name (fun x26 hx26 => ?_)
          refine e_istore_n [(0, .int (nI a)), (1, .int (nI b)), (2, .int (nI p)), (3, .int x26), (4, .int (nI i))] dX11_product_26 rfl (by decide) rfl ?_
          refine e_iinc (nI (i + 1)) [(0, .int (nI a)), (1, .int (nI b)), (2, .int (nI p)), (3, .int x26), (4, .int (nI (i + 1)))] dX11_product_27 4 rfl (nI_1 i) (by decide) rfl ?_
          refine e_goto (t := 5) dX11_product_30 (by decide) ?_
          subst hx26
          rw [i_shl (by omega) (by omega), nx_xor]
          rw [q14, bI_eq0, i_bit1 (by omega) (by omega)] at h17
          refine ih (i + 1) _ (by omega) ?_ ?_
          · exact Nat.xor_lt_two_pow hS (by omega)
          · rw [← hR]
            show _ = pdB p 3 (pdA a b m (i + 1) (if a.testBit i then S ^^^ (b * 2 ^ i) else S))
            rw [if_pos (by cases hb9 : a.testBit i with
              | true => rfl
              | false => exact absurd (fun q => by rw [hb9] at q; cases q) h17)]
  refine e_iconst (v := 0) dX11_product_0 rfl ?_
  refine e_istore_n [(0, .int (nI a)), (1, .int (nI b)), (2, .int (nI p)), (3, .int 0)] dX11_product_1 rfl (by decide) rfl ?_
  refine e_iconst (v := 0) dX11_product_2 rfl ?_
  refine e_istore [(0, .int (nI a)), (1, .int (nI b)), (2, .int (nI p)), (3, .int 0), (4, .int 0)] dX11_product_3 (by decide) rfl ?_
  exact loop1 4 0 0 rfl (by decide) (pd_eq p a b)
