set_option maxRecDepth 100000 in
theorem c10_gcd {a b : Nat} (ha : a < 2 ^ 31) (hb : b < 2 ^ 9) {σ : ex_S} {μ : ex_L} : Ci 2 yX10_greatestMeasure cX10_greatestMeasure 6 (some .int) [.int (nI a), .int (nI b)] TT σ μ (fun z' σ' μ' => z' = nI (Nat.gcd a b) ∧ σ' = σ ∧ μ' = μ) := by
  refine Cl_of (by decide +kernel) (Nat.le_of_ble_eq_true rfl) ?_
  show Ev RX10 cX10_greatestMeasure 6 2 0 0 "greatestMeasure" (some .int) ev_ext _ _ 0 0 0 [(0, .int (nI a)), (1, .int (nI b))] [] TT σ μ
  have loop : ∀ (m s g l : Nat), s + m = 100 → g < 2 ^ 31 → l < 2 ^ 31 → gmF m g l = Nat.gcd a b → (l = 0 → True) → Ev RX10 cX10_greatestMeasure 6 2 0 0 "greatestMeasure" (some .int) ev_ext TT.length (fun v9 T9 σ9 μ9 => T9 = TT ∧ ∃ z9, v9 = some (.int z9) ∧ (fun z' σ' μ' => z' = nI (Nat.gcd a b) ∧ σ' = σ ∧ μ' = μ) z9 σ9 μ9) 0 0 7 [(0, .int (nI a)), (1, .int (nI b)), (2, .int (nI g)), (3, .int (nI l)), (4, .int (nI s))] [] TT σ μ := by
    intro m
    induction m with
    | zero =>
      intro s g l hs hg hl hR _
      obtain rfl : s = 100 := by omega
      refine e_iload_n dX10_greatestMeasure_7 rfl 3 rfl ?_
      refine e_if_le (t := 34) dX10_greatestMeasure_8 (by decide) (fun h8 => ?_) (fun h8 => ?_)
      · skip
        refine e_iload_n dX10_greatestMeasure_34 rfl 2 rfl ?_
        refine e_reti dX10_greatestMeasure_35 ev_nwi (Nat.le_refl _) (Nat.le_refl _) ?_
        exact ⟨by rw [← hR]; rfl, rfl, rfl⟩
      · skip
        refine e_iload dX10_greatestMeasure_11 4 rfl ?_
        refine e_bipush (v := 100) dX10_greatestMeasure_13 rfl ?_
        refine e_icmp_ge (t := 34) dX10_greatestMeasure_15 (by decide) (fun h15 => ?_) (fun h15 => ?_)
        · skip
          refine e_iload_n dX10_greatestMeasure_34 rfl 2 rfl ?_
          refine e_reti dX10_greatestMeasure_35 ev_nwi (Nat.le_refl _) (Nat.le_refl _) ?_
          exact ⟨by rw [← hR]; rfl, rfl, rfl⟩
        · skip
          exact absurd (show nI 100 ≤ nI 100 from (i_le (by decide) (by decide)).mpr (Nat.le_refl 100)) h15
    | succ m ih =>
      intro s g l hs hg hl hR _
      have e2 : gmF (m + 1) g l = if l = 0 then g else gmF m l (g % l) := rfl
      refine e_iload_n dX10_greatestMeasure_7 rfl 3 rfl ?_
      refine e_if_le (t := 34) dX10_greatestMeasure_8 (by decide) (fun h8 => ?_) (fun h8 => ?_)
      · skip
        have hl0 : l = 0 := by
          have := (i_le hl (by decide)).mp (show nI l ≤ nI 0 from h8)
          omega
        rw [if_pos hl0] at e2
        refine e_iload_n dX10_greatestMeasure_34 rfl 2 rfl ?_
        refine e_reti dX10_greatestMeasure_35 ev_nwi (Nat.le_refl _) (Nat.le_refl _) ?_
        exact ⟨by rw [← hR, e2], rfl, rfl⟩
      · skip
        have hl0 : ¬ l = 0 := fun q => h8 (by rw [q]; exact Int32.le_refl _)
        rw [if_neg hl0] at e2
        have hml := Nat.mod_lt g (show 0 < l by omega)
        refine e_iload dX10_greatestMeasure_11 4 rfl ?_
        refine e_bipush (v := 100) dX10_greatestMeasure_13 rfl ?_
        refine e_icmp_ge (t := 34) dX10_greatestMeasure_15 (by decide) (fun h15 => ?_) (fun h15 => ?_)
        · skip
          exact absurd ((i_le (by omega) (by omega)).mp (show nI 100 ≤ nI s from h15)) (by omega)
        · skip
          refine e_iload_n dX10_greatestMeasure_18 rfl 2 rfl ?_
          refine e_iload_n dX10_greatestMeasure_19 rfl 3 rfl ?_
          refine e_irem dX10_greatestMeasure_20 (fun q => hl0 ((i_eq hl (by decide)).mp (show nI l = nI 0 from q))) ?_
          rw [i_rem hg (by omega) hl]
          refine e_istore [(0, .int (nI a)), (1, .int (nI b)), (2, .int (nI g)), (3, .int (nI l)), (4, .int (nI s)), (5, .int (nI (g % l)))] dX10_greatestMeasure_21 (by decide) rfl ?_
          refine e_iload_n dX10_greatestMeasure_23 rfl 3 rfl ?_
          refine e_istore_n [(0, .int (nI a)), (1, .int (nI b)), (2, .int (nI l)), (3, .int (nI l)), (4, .int (nI s)), (5, .int (nI (g % l)))] dX10_greatestMeasure_24 rfl (by decide) rfl ?_
          refine e_iload dX10_greatestMeasure_25 5 rfl ?_
          refine e_istore_n [(0, .int (nI a)), (1, .int (nI b)), (2, .int (nI l)), (3, .int (nI (g % l))), (4, .int (nI s)), (5, .int (nI (g % l)))] dX10_greatestMeasure_27 rfl (by decide) rfl ?_
          refine e_iinc (nI (s + 1)) [(0, .int (nI a)), (1, .int (nI b)), (2, .int (nI l)), (3, .int (nI (g % l))), (4, .int (nI (s + 1))), (5, .int (nI (g % l)))] dX10_greatestMeasure_28 4 rfl (nI_1 s) (by decide) rfl ?_
          refine e_goto (t := 7) dX10_greatestMeasure_31 (by decide) ?_
          refine e_lv [(0, .int (nI a)), (1, .int (nI b)), (2, .int (nI l)), (3, .int (nI (g % l))), (4, .int (nI (s + 1)))] (List.forall_mem_cons.mpr ⟨List.mem_of_getElem? (i := 0) rfl, List.forall_mem_cons.mpr ⟨List.mem_of_getElem? (i := 1) rfl, List.forall_mem_cons.mpr ⟨List.mem_of_getElem? (i := 2) rfl, List.forall_mem_cons.mpr ⟨List.mem_of_getElem? (i := 3) rfl, List.forall_mem_cons.mpr ⟨List.mem_of_getElem? (i := 4) rfl, fun _ h => absurd h List.not_mem_nil⟩⟩⟩⟩⟩) ?_
          exact ih (s + 1) _ _ (by omega) hl (by omega) (by rw [← hR, e2]) (fun _ => trivial)
  refine e_iload_n dX10_greatestMeasure_0 rfl 0 rfl ?_
  refine e_istore_n [(0, .int (nI a)), (1, .int (nI b)), (2, .int (nI a))] dX10_greatestMeasure_1 rfl (by decide) rfl ?_
  refine e_iload_n dX10_greatestMeasure_2 rfl 1 rfl ?_
  refine e_istore_n [(0, .int (nI a)), (1, .int (nI b)), (2, .int (nI a)), (3, .int (nI b))] dX10_greatestMeasure_3 rfl (by decide) rfl ?_
  refine e_iconst (v := 0) dX10_greatestMeasure_4 rfl ?_
  refine e_istore [(0, .int (nI a)), (1, .int (nI b)), (2, .int (nI a)), (3, .int (nI b)), (4, .int 0)] dX10_greatestMeasure_5 (by decide) rfl ?_
  exact loop 100 0 a b (by omega) ha (by omega) (gmF_gcd 9 100 a b hb (by decide)) (fun _ => trivial)

set_option maxRecDepth 100000 in
theorem c10_partOf {a b : Nat} {w : Int32} (ha : a < 2 ^ 31) (hb : b < 2 ^ 9) (hb0 : 0 < b) {σ : ex_S} {μ : ex_L} : Cg 3 yX10_partOf cX10_partOf 4 (some .long) [.int (nI a), .int (nI b), .int w] TT σ μ (fun z' σ' μ' => z' = nfrac a b w ∧ σ' = σ ∧ μ' = μ) := by
  refine Cl_of (by decide +kernel) (Nat.le_of_ble_eq_true rfl) ?_
  show Ev RX10 cX10_partOf 4 3 0 0 "partOf" (some .long) ev_ext _ _ 0 0 0 [(0, .int (nI a)), (1, .int (nI b)), (2, .int w)] [] TT σ μ
  have hg1 : Nat.gcd a b ≤ b := Nat.le_of_dvd hb0 (Nat.gcd_dvd_right a b)
  have hg0 : 0 < Nat.gcd a b := Nat.gcd_pos_of_pos_right a hb0
  refine e_iload_n dX10_partOf_0 rfl 0 rfl ?_
  refine e_iload_n dX10_partOf_1 rfl 1 rfl ?_
  refine e_callSi dX10_partOf_2 cvX10_326 rfl (c10_gcd ha hb) (Nat.le_of_ble_eq_true rfl) (Nat.le_refl _) (Nat.le_refl _) rfl (Nat.le_of_ble_eq_true rfl) (fun r2 s2 m2 q2 => ?_)
  obtain ⟨q2, e2, g2⟩ := q2
  rw [e2, g2]
  clear e2 g2 s2 m2
  rw [q2]
  refine e_istore_n [(0, .int (nI a)), (1, .int (nI b)), (2, .int w), (3, .int (nI (Nat.gcd a b)))] dX10_partOf_5 rfl (by decide) rfl ?_
  refine e_iload_n dX10_partOf_6 rfl 3 rfl ?_
  refine e_if_ne (t := 14) dX10_partOf_7 (by decide) (fun h7 => ?_) (fun h7 => ?_)
  · skip
    refine e_iload_n dX10_partOf_14 rfl 2 rfl ?_
    refine e_if_ne (t := 25) dX10_partOf_15 (by decide) (fun h15 => ?_) (fun h15 => ?_)
    · skip
      skip
      refine e_iload_n dX10_partOf_25 rfl 1 rfl ?_
      refine e_iload_n dX10_partOf_26 rfl 3 rfl ?_
      refine e_idiv dX10_partOf_27 (fun q => absurd ((i_eq (by omega) (by decide)).mp (show nI (Nat.gcd a b) = nI 0 from q)) (by omega)) ?_
      
      refine e_i2l dX10_partOf_28 ?_
      refine e_retl dX10_partOf_29 (Nat.le_refl _) (Nat.le_refl _) ?_
      refine ⟨?_, rfl, rfl⟩
      unfold nfrac
      rw [if_neg h15, pk_div (by omega) hg0 (by omega)]
      exact nI_l (Nat.lt_of_le_of_lt (Nat.div_le_self _ _) (by omega))
    · skip
      skip
      refine e_iload_n dX10_partOf_18 rfl 0 rfl ?_
      refine e_iload_n dX10_partOf_19 rfl 3 rfl ?_
      refine e_idiv dX10_partOf_20 (fun q => absurd ((i_eq (by omega) (by decide)).mp (show nI (Nat.gcd a b) = nI 0 from q)) (by omega)) ?_
      
      refine e_i2l dX10_partOf_21 ?_
      refine e_goto (t := 29) dX10_partOf_22 (by decide) ?_
      refine e_retl dX10_partOf_29 (Nat.le_refl _) (Nat.le_refl _) ?_
      refine ⟨?_, rfl, rfl⟩
      unfold nfrac
      rw [if_pos h15, pk_div ha hg0 (by omega)]
      exact nI_l (Nat.lt_of_le_of_lt (Nat.div_le_self _ _) ha)
  · skip
    exact absurd ((i_eq (by omega) (by decide)).mp (show nI (Nat.gcd a b) = nI 0 from h7)) (by omega)

set_option maxRecDepth 100000 in
theorem c11_part {a b : Nat} {w : Int32} (ha : a < 2 ^ 31) (hb : b < 2 ^ 31) (hb0 : 0 < b) {σ : ex_S} {μ : ex_L} : Cg 3 yX11_part cX11_part 11 (some .long) [.long (lN a), .long (lN b), .int w] TT σ μ (fun z' σ' μ' => z' = nfrac a b w ∧ σ' = σ ∧ μ' = μ) := by
  refine Cl_of (by decide +kernel) (Nat.le_of_ble_eq_true rfl) ?_
  show Ev RX11 cX11_part 11 3 0 0 "part" (some .long) ev_ext _ _ 0 0 0 [(0, .long (lN a)), (2, .long (lN b)), (4, .int w)] [] TT σ μ
  have hg1 : Nat.gcd a b ≤ b := Nat.le_of_dvd hb0 (Nat.gcd_dvd_right a b)
  have hg0 : 0 < Nat.gcd a b := Nat.gcd_pos_of_pos_right a hb0
  have loop : ∀ (m x y : Nat), y ≤ m → x < 2 ^ 31 → y < 2 ^ 31 → Nat.gcd x y = Nat.gcd a b → Ev RX11 cX11_part 11 3 0 0 "part" (some .long) ev_ext TT.length (fun v9 T9 σ9 μ9 => T9 = TT ∧ ∃ z9, v9 = some (.long z9) ∧ (fun z' σ' μ' => z' = nfrac a b w ∧ σ' = σ ∧ μ' = μ) z9 σ9 μ9) 0 0 9 [(0, .long (lN a)), (2, .long (lN b)), (4, .int w), (5, .long (lN x)), (7, .long (lN y))] [] TT σ μ := by
    intro m
    induction m with
    | zero =>
      intro x y hy hx hy2 hR
      obtain rfl : y = 0 := by omega
      rw [Nat.gcd_zero_right] at hR
      subst hR
      refine e_lload dX11_part_9 4 rfl ?_
      refine e_lconst (v := 0) dX11_part_11 rfl ?_
      refine e_lcmp dX11_part_12 ?_
      refine e_if_eq (t := 34) dX11_part_13 (by decide) (fun h13 => ?_) (fun h13 => ?_)
      · skip
        refine e_iload dX11_part_34 2 rfl ?_
        refine e_if_ne (t := 43) dX11_part_36 (by decide) (fun h36 => ?_) (fun h36 => ?_)
        · skip
          skip
          refine e_lload_n dX11_part_43 rfl 1 rfl ?_
          refine e_lload dX11_part_44 3 rfl ?_
          refine e_ldiv dX11_part_46 (fun q => absurd ((pk_lEQ (by omega) (by decide)).mp (show lN (Nat.gcd a b) = lN 0 from q)) (by omega)) ?_
          refine e_retl dX11_part_47 (Nat.le_refl _) (Nat.le_refl _) ?_
          refine ⟨?_, rfl, rfl⟩
          unfold nfrac
          rw [if_neg h36]
          exact pk_lDiv (by omega) hg0 (by omega)
        · skip
          skip
          refine e_lload_n dX11_part_39 rfl 0 rfl ?_
          refine e_goto (t := 44) dX11_part_40 (by decide) ?_
          refine e_lload dX11_part_44 3 rfl ?_
          refine e_ldiv dX11_part_46 (fun q => absurd ((pk_lEQ (by omega) (by decide)).mp (show lN (Nat.gcd a b) = lN 0 from q)) (by omega)) ?_
          refine e_retl dX11_part_47 (Nat.le_refl _) (Nat.le_refl _) ?_
          refine ⟨?_, rfl, rfl⟩
          unfold nfrac
          rw [if_pos h36]
          exact pk_lDiv (by omega) hg0 (by omega)
      · skip
        exact absurd ((lcmp0 (by decide)).mpr rfl) h13
    | succ m ih =>
      intro x y hy hx hy2 hR
      refine e_lload dX11_part_9 4 rfl ?_
      refine e_lconst (v := 0) dX11_part_11 rfl ?_
      refine e_lcmp dX11_part_12 ?_
      refine e_if_eq (t := 34) dX11_part_13 (by decide) (fun h13 => ?_) (fun h13 => ?_)
      · skip
        have hy0 : y = 0 := (lcmp0 (by omega)).mp h13
        subst hy0
        rw [Nat.gcd_zero_right] at hR
        subst hR
        refine e_iload dX11_part_34 2 rfl ?_
        refine e_if_ne (t := 43) dX11_part_36 (by decide) (fun h36 => ?_) (fun h36 => ?_)
        · skip
          skip
          refine e_lload_n dX11_part_43 rfl 1 rfl ?_
          refine e_lload dX11_part_44 3 rfl ?_
          refine e_ldiv dX11_part_46 (fun q => absurd ((pk_lEQ (by omega) (by decide)).mp (show lN (Nat.gcd a b) = lN 0 from q)) (by omega)) ?_
          refine e_retl dX11_part_47 (Nat.le_refl _) (Nat.le_refl _) ?_
          refine ⟨?_, rfl, rfl⟩
          unfold nfrac
          rw [if_neg h36]
          exact pk_lDiv (by omega) hg0 (by omega)
        · skip
          skip
          refine e_lload_n dX11_part_39 rfl 0 rfl ?_
          refine e_goto (t := 44) dX11_part_40 (by decide) ?_
          refine e_lload dX11_part_44 3 rfl ?_
          refine e_ldiv dX11_part_46 (fun q => absurd ((pk_lEQ (by omega) (by decide)).mp (show lN (Nat.gcd a b) = lN 0 from q)) (by omega)) ?_
          refine e_retl dX11_part_47 (Nat.le_refl _) (Nat.le_refl _) ?_
          refine ⟨?_, rfl, rfl⟩
          unfold nfrac
          rw [if_pos h36]
          exact pk_lDiv (by omega) hg0 (by omega)
      · skip
        have hy0 : ¬ y = 0 := fun q => h13 ((lcmp0 (by omega)).mpr q)
        have hml := Nat.mod_lt x (show 0 < y by omega)
        refine e_lload dX11_part_16 3 rfl ?_
        refine e_lload dX11_part_18 4 rfl ?_
        refine e_lrem dX11_part_20 (fun q => absurd ((pk_lEQ (by omega) (by decide)).mp (show lN y = lN 0 from q)) hy0) ?_
        rw [pk_lRem (by omega) (by omega) (by omega)]
        refine e_lstore [(0, .long (lN a)), (2, .long (lN b)), (4, .int w), (5, .long (lN x)), (7, .long (lN y)), (9, .long (lN (x % y)))] dX11_part_21 (by decide) rfl ?_
        refine e_lload dX11_part_23 4 rfl ?_
        refine e_lstore [(0, .long (lN a)), (2, .long (lN b)), (4, .int w), (5, .long (lN y)), (7, .long (lN y)), (9, .long (lN (x % y)))] dX11_part_25 (by decide) rfl ?_
        refine e_lload dX11_part_27 5 rfl ?_
        refine e_lstore [(0, .long (lN a)), (2, .long (lN b)), (4, .int w), (5, .long (lN y)), (7, .long (lN (x % y))), (9, .long (lN (x % y)))] dX11_part_29 (by decide) rfl ?_
        refine e_goto (t := 9) dX11_part_31 (by decide) ?_
        refine e_lv [(0, .long (lN a)), (2, .long (lN b)), (4, .int w), (5, .long (lN y)), (7, .long (lN (x % y)))] (List.forall_mem_cons.mpr ⟨List.mem_of_getElem? (i := 0) rfl, List.forall_mem_cons.mpr ⟨List.mem_of_getElem? (i := 1) rfl, List.forall_mem_cons.mpr ⟨List.mem_of_getElem? (i := 2) rfl, List.forall_mem_cons.mpr ⟨List.mem_of_getElem? (i := 3) rfl, List.forall_mem_cons.mpr ⟨List.mem_of_getElem? (i := 4) rfl, fun _ h => absurd h List.not_mem_nil⟩⟩⟩⟩⟩) ?_
        exact ih _ _ (by omega) hy2 (by omega) (by rw [← hR, gcd_step x y])
  refine e_lload_n dX11_part_0 rfl 0 rfl ?_
  refine e_labs dX11_part_1 cvX11_268 (Nat.le_of_ble_eq_true rfl) (Nat.le_of_ble_eq_true rfl) (Nat.le_refl _) (Nat.le_refl _) ?_
  rw [labs_i ha]
  refine e_lstore [(0, .long (lN a)), (2, .long (lN b)), (4, .int w), (5, .long (lN a))] dX11_part_4 (by decide) rfl ?_
  refine e_lload_n dX11_part_6 rfl 1 rfl ?_
  refine e_lstore [(0, .long (lN a)), (2, .long (lN b)), (4, .int w), (5, .long (lN a)), (7, .long (lN b))] dX11_part_7 (by decide) rfl ?_
  exact loop b a b (Nat.le_refl b) ha hb rfl
