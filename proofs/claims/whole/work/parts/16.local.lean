set_option maxRecDepth 100000 in
theorem c11_repairs {p : Nat} (hp : gP p) {S : ns_T} (hV : VS S) {j : Nat} (hj : j < S 0 0) {σ : ex_S} {μ : ex_L}(hF : FR σ p) (hR : NR σ S) : Ci 9 yX11_repairs cX11_repairs 3 (some .boolean) [.ref 127, .int (nI j)] TT σ μ (fun z' σ' μ' => z' = bI ((nbk p S j).isSome = true) ∧ NR σ' (naft S j (nbk p S j)) ∧ (∀ t, nbk p S j = some t → σ' 127 37 = nI (ncs S t)) ∧ (∀ i, i ≠ 127 → i ≠ 150 → i ≠ 134 → i ≠ 135 → σ' i = σ i) ∧ (∀ k, k < 35 ∨ 37 < k → σ' 127 k = σ 127 k) ∧ μ' = μ) := by
  refine Cl_of (by decide +kernel) (Nat.le_of_ble_eq_true rfl) ?_
  show Ev RX11 cX11_repairs 3 9 0 0 "repairs" (some .boolean) ev_ext _ _ 0 0 0 [(0, .ref 127), (1, .int (nI j))] [] TT σ μ
  have hn := hV.1
  have h2n := two_n hV
  have cj := (hR.2.2.2.1 j hj).2.2.2.2.1
  have loop : ∀ (t : Nat), (S 0 3).testBit j = true → nhelp p S j = some t → ∀ (m i : Nat) (σ1 : ex_S), i + m = S 0 0 → (∀ i, i ≠ 127 → i ≠ 150 → i ≠ 134 → i ≠ 135 → σ1 i = σ i) → (∀ k, k < 35 ∨ 37 < k → σ1 127 k = σ 127 k) → σ1 127 36 = nI t → σ1 127 37 = nI (ncs S t) → (∀ k, k < S 0 0 → σ1 135 k = nI (if (nrep S j t 0 3).testBit k then 1 else 0)) → (∀ k, k < S 0 0 → σ1 134 k = nI (if k < i ∧ t.testBit k = true then min 9999 (S 4 k + 1) else S 4 k)) → Ev RX11 cX11_repairs 3 9 0 0 "repairs" (some .boolean) ev_ext TT.length (fun v9 T9 σ9 μ9 => T9 = TT ∧ ∃ z9, v9 = some (.int z9) ∧ (fun z' σ' μ' => z' = bI ((nbk p S j).isSome = true) ∧ NR σ' (naft S j (nbk p S j)) ∧ (∀ t, nbk p S j = some t → σ' 127 37 = nI (ncs S t)) ∧ (∀ i, i ≠ 127 → i ≠ 150 → i ≠ 134 → i ≠ 135 → σ' i = σ i) ∧ (∀ k, k < 35 ∨ 37 < k → σ' 127 k = σ 127 k) ∧ μ' = μ) z9 σ9 μ9) 0 0 36 [(0, .ref 127), (1, .int (nI j)), (2, .int (nI i))] [] TT σ1 μ := by
    intro t hm ht m
    have ht10 := nhelp_lt hV ht
    have hbk : nbk p S j = some t := by
      unfold nbk
      rw [if_pos hm, ht]
    induction m with
    | zero =>
      intro i σ1 hi f1 f2 f3 f4 f5 f6
      obtain rfl : i = S 0 0 := by omega
      obtain ⟨n1, n2, n3, n4, n5⟩ := id hR
      refine e_iload_n dX11_repairs_36 rfl 2 rfl ?_
      refine e_aload_n dX11_repairs_37 rfl 0 rfl ?_
      refine e_getI dX11_repairs_38 lkX11_95 tt_127 rfl ?_
      rw [f2 5 (by decide), n1]
      refine e_icmp_ge (t := 81) dX11_repairs_41 (by decide) (fun h41 => ?_) (fun h41 => ?_)
      · skip
        refine e_iconst (v := 1) dX11_repairs_81 rfl ?_
        refine e_reti dX11_repairs_82 ev_nw1 (Nat.le_refl _) (Nat.le_refl _) ?_
        rw [hbk]
        refine ⟨rfl, ?_, fun t2 h2 => by cases h2; exact f4, f1, f2, rfl⟩
        show NR σ1 (nrep S j t)
        have e0 : nrep S j t 0 0 = S 0 0 := nrep_ne (by omega) (by omega)
        have e1 : nrep S j t 0 1 = S 0 1 := nrep_ne (by omega) (by omega)
        unfold NR
        rw [e0, e1]
        refine ⟨by rw [f2 5 (by decide)]; exact n1, by rw [f2 6 (by decide)]; exact n2, by rw [f2 7 (by decide)]; exact n3, fun k hk => ?_, fun e he => ?_⟩
        · obtain ⟨m1, m2, m3, m4, m5, m6, m7⟩ := n4 k hk
          have g4 := f6 k hk
          have g5 : (if k < S 0 0 ∧ t.testBit k = true then min 9999 (S 4 k + 1) else S 4 k) = nrep S j t 4 k := by
            rw [nrep_4]
            by_cases e : t.testBit k = true
            · rw [if_pos ⟨hk, e⟩, if_pos e]
            · rw [if_neg (fun q => e q.2), if_neg e]
          rw [g5] at g4
          rw [f1 131 (by decide) (by decide) (by decide) (by decide), f1 132 (by decide) (by decide) (by decide) (by decide), f1 133 (by decide) (by decide) (by decide) (by decide), f1 136 (by decide) (by decide) (by decide) (by decide), f1 137 (by decide) (by decide) (by decide) (by decide), show nrep S j t 1 k = S 1 k from nrep_ne (by omega) (by omega), show nrep S j t 2 k = S 2 k from nrep_ne (by omega) (by omega), show nrep S j t 5 k = S 5 k from nrep_ne (by omega) (by omega), show nrep S j t 3 k = S 3 k from nrep_ne (by omega) (by omega)]
          exact ⟨m1, m2, m3, g4, f5 k hk, m6, fun q hq => by rw [show nrep S j t (20 + k) q = S (20 + k) q from nrep_ne (by omega) (by omega)]; exact m7 q hq⟩
        · rw [f1 138 (by decide) (by decide) (by decide) (by decide), f1 139 (by decide) (by decide) (by decide) (by decide), show nrep S j t 8 e = S 8 e from nrep_ne (by omega) (by omega), show nrep S j t 7 e = S 7 e from nrep_ne (by omega) (by omega)]
          exact n5 e he
      · skip
        exact absurd (show nI (S 0 0) ≤ nI (S 0 0) from (i_le (by omega) (by omega)).mpr (by omega)) h41
    | succ m ih =>
      intro i σ1 hi f1 f2 f3 f4 f5 f6
      have ci := f6 i (by omega)
      rw [if_neg (fun q => absurd q.1 (by omega))] at ci
      have hr := (hV.2.2.2.2.2.2.1 i (by omega)).2.2.1
      refine e_iload_n dX11_repairs_36 rfl 2 rfl ?_
      refine e_aload_n dX11_repairs_37 rfl 0 rfl ?_
      refine e_getI dX11_repairs_38 lkX11_95 tt_127 rfl ?_
      rw [f2 5 (by decide), hR.1]
      refine e_icmp_ge (t := 81) dX11_repairs_41 (by decide) (fun h41 => ?_) (fun h41 => ?_)
      · skip
        exact absurd ((i_le (by omega) (by omega)).mp (show nI (S 0 0) ≤ nI i from h41)) (by omega)
      · skip
        refine e_aload_n dX11_repairs_44 rfl 0 rfl ?_
        refine e_getI dX11_repairs_45 lkX11_190 tt_127 rfl ?_
        rw [f3]
        refine e_iload_n dX11_repairs_48 rfl 2 rfl ?_
        refine e_callSi dX11_repairs_49 cvX11_103 rfl (c11_isIn (nI t) (nI i)) (Nat.le_of_ble_eq_true rfl) (Nat.le_refl _) (Nat.le_refl _) rfl (Nat.le_of_ble_eq_true rfl) (fun r49 s49 m49 q49 => ?_)
        obtain ⟨q49, e49, g49⟩ := q49
        rw [e49, g49]
        clear e49 g49 s49 m49
        refine e_if_eq (t := 75) dX11_repairs_52 (by decide) (fun h52 => ?_) (fun h52 => ?_)
        · skip
          rw [q49, bI_eq0, i_bit1 (by omega) (by omega)] at h52
          have hbit := eq_false_of_ne_true h52
          refine e_iinc (nI (i + 1)) [(0, .ref 127), (1, .int (nI j)), (2, .int (nI (i + 1)))] dX11_repairs_75 2 rfl (nI_1 i) (by decide) rfl ?_
          refine e_goto (t := 36) dX11_repairs_78 (by decide) ?_
          refine ih (i + 1) _ (by omega) f1 f2 f3 f4 f5 (fun k hk => ?_)
          by_cases e : k = i
          · rw [e, ci]
            rw [if_neg (fun q => by rw [hbit] at q; cases q.2)]
          · rw [f6 k hk]
            by_cases e2 : k < i ∧ t.testBit k = true
            · rw [if_pos e2, if_pos ⟨by omega, e2.2⟩]
            · rw [if_neg e2, if_neg (fun q => e2 ⟨by omega, q.2⟩)]
        · skip
          rw [q49, bI_eq0, i_bit1 (by omega) (by omega)] at h52
          have hbit := Classical.not_not.mp h52
          refine e_aload_n dX11_repairs_55 rfl 0 rfl ?_
          refine e_getR dX11_repairs_56 lkX11_30 tt_127 rfl ?_
          refine e_iload_n dX11_repairs_59 rfl 2 rfl ?_
          refine e_sipush (v := 9999) dX11_repairs_60 rfl ?_
          refine e_aload_n dX11_repairs_63 rfl 0 rfl ?_
          refine e_getR dX11_repairs_64 lkX11_30 tt_127 rfl ?_
          refine e_iload_n dX11_repairs_67 rfl 2 rfl ?_
          refine e_iald dX11_repairs_68 tt_134 (vp_in_nI (by omega) (by decide)) ?_
          rw [i_cl (by omega), ci]
          refine e_iconst (v := 1) dX11_repairs_69 rfl ?_
          refine e_iadd dX11_repairs_70 ?_
          rw [show nI (S 4 i) + 1 = nI (S 4 i + 1) from nI_1 _, show (9999 : Int32) = nI 9999 from rfl]
          refine e_mmin dX11_repairs_71 cvX11_177 (Nat.le_of_ble_eq_true rfl) (Nat.le_of_ble_eq_true rfl) (Nat.le_refl _) (Nat.le_refl _) ?_
          rw [i_min (by decide) (by omega)]
          refine e_iast dX11_repairs_74 tt_134 (vp_in_nI (by omega) (by decide)) ?_
          refine e_iinc (nI (i + 1)) [(0, .ref 127), (1, .int (nI j)), (2, .int (nI (i + 1)))] dX11_repairs_75 2 rfl (nI_1 i) (by decide) rfl ?_
          refine e_goto (t := 36) dX11_repairs_78 (by decide) ?_
          rw [i_cl (by omega)]
          refine ih (i + 1) _ (by omega) (fun k h1 h2 h3 h4 => by rw [sup_obj h3]; exact f1 k h1 h2 h3 h4) (fun k hk => by rw [sup_obj (by decide)]; exact f2 k hk) (by rw [sup_obj (by decide)]; exact f3) (by rw [sup_obj (by decide)]; exact f4) (fun k hk => by rw [sup_obj (by decide)]; exact f5 k hk) (fun k hk => ?_)
          by_cases e : k = i
          · rw [e, sup_same, if_pos ⟨by omega, hbit⟩]
          · rw [sup_idx e, f6 k hk]
            by_cases e2 : k < i ∧ t.testBit k = true
            · rw [if_pos e2, if_pos ⟨by omega, e2.2⟩]
            · rw [if_neg e2, if_neg (fun q => e2 ⟨by omega, q.2⟩)]
  refine e_aload_n dX11_repairs_0 rfl 0 rfl ?_
  refine e_getR dX11_repairs_1 lkX11_33 tt_127 rfl ?_
  refine e_iload_n dX11_repairs_4 rfl 1 rfl ?_
  refine e_iald dX11_repairs_5 tt_135 (vp_in_nI (by omega) (by decide)) ?_
  rw [i_cl (by omega), cj]
  refine e_if_ne (t := 11) dX11_repairs_6 (by decide) (fun h6 => ?_) (fun h6 => ?_)
  · skip
    have hm : (S 0 3).testBit j = true := by
      cases hb9 : (S 0 3).testBit j with
      | true => rfl
      | false => exact absurd (by rw [hb9]; rfl) h6
    refine e_aload_n dX11_repairs_11 rfl 0 rfl ?_
    refine e_iload_n dX11_repairs_12 rfl 1 rfl ?_
    refine e_callVv dX11_repairs_13 cvX11_180 rfl tt_127 rfl (c11_helps hp hV hj hF hR) (Nat.le_of_ble_eq_true rfl) (Nat.le_refl _) (Nat.le_refl _) rfl (Nat.le_of_ble_eq_true rfl) (fun s13 m13 q13 => ?_)
    obtain ⟨a1, a2, a3, a4⟩ := q13
    rw [a4]
    refine e_aload_n dX11_repairs_16 rfl 0 rfl ?_
    refine e_getI dX11_repairs_17 lkX11_190 tt_127 rfl ?_
    refine e_bipush (v := (-5)) dX11_repairs_20 rfl ?_
    rw [a1]
    refine e_icmp_ne (t := 27) dX11_repairs_22 (by decide) (fun h22 => ?_) (fun h22 => ?_)
    · skip
      obtain ⟨t, ht⟩ : ∃ t, nhelp p S j = some t := by
        cases h9 : nhelp p S j with
        | some t => exact ⟨t, rfl⟩
        | none => rw [h9] at h22; exact absurd rfl h22
      refine e_aload_n dX11_repairs_27 rfl 0 rfl ?_
      refine e_getR dX11_repairs_28 lkX11_33 tt_127 rfl ?_
      refine e_iload_n dX11_repairs_31 rfl 1 rfl ?_
      refine e_iconst (v := 0) dX11_repairs_32 rfl ?_
      refine e_iast dX11_repairs_33 tt_135 (vp_in_nI (by omega) (by decide)) ?_
      refine e_iconst (v := 0) dX11_repairs_34 rfl ?_
      refine e_istore_n [(0, .ref 127), (1, .int (nI j)), (2, .int 0)] dX11_repairs_35 rfl (by decide) rfl ?_
      rw [i_cl (by omega)]
      have hR1 := hR.toS a3
      refine loop t hm ht (S 0 0) 0 _ (by omega) (fun i h1 h2 h3 h4 => by rw [sup_obj h4]; exact a3.1 i h1 h2) (fun k hk => by rw [sup_obj (by decide)]; exact a3.2 k hk) (by rw [sup_obj (by decide), a1, ht]; rfl) (by rw [sup_obj (by decide), a2, ht]; rfl) (fun k hk => ?_) (fun k hk => by rw [sup_obj (by decide), if_neg (fun q => absurd q.1 (by omega))]; exact (hR1.2.2.2.1 k hk).2.2.2.1)
      rw [nrep_3, Nat.testBit_and, Nat.testBit_xor, Nat.testBit_and, Nat.testBit_two_pow]
      by_cases e : k = j
      · rw [e, sup_same, decide_eq_true rfl, hm]
        rfl
      · have e1 : decide (j = k) = false := decide_eq_false (fun q => e q.symm)
        rw [sup_idx e, (hR1.2.2.2.1 k hk).2.2.2.2.1, e1]
        cases (S 0 3).testBit k <;> rfl
    · skip
      have hnn : nhelp p S j = none := by
        cases h9 : nhelp p S j with
        | none => rfl
        | some t =>
          rw [h9] at h22
          exact absurd h22 (hI_some (Nat.lt_trans (nhelp_lt hV h9) (by decide)))
      have hbk : nbk p S j = none := by
        unfold nbk
        rw [if_pos hm, hnn]
      refine e_iconst (v := 0) dX11_repairs_25 rfl ?_
      refine e_reti dX11_repairs_26 ev_nw0 (Nat.le_refl _) (Nat.le_refl _) ?_
      rw [hbk]
      exact ⟨rfl, hR.toS a3, (fun t q => by cases q), (fun i h1 h2 _ _ => a3.1 i h1 h2), a3.2, rfl⟩
  · skip
    have hm : (S 0 3).testBit j = false := by
      cases hb9 : (S 0 3).testBit j with
      | false => rfl
      | true => exact absurd (show nI 1 = nI 0 from by rw [hb9] at h6; exact h6) (by decide)
    have hbk : nbk p S j = none := by
      unfold nbk
      rw [if_neg (by rw [hm]; decide)]
    refine e_iconst (v := 0) dX11_repairs_9 rfl ?_
    refine e_reti dX11_repairs_10 ev_nw0 (Nat.le_refl _) (Nat.le_refl _) ?_
    rw [hbk]
    exact ⟨rfl, hR, (fun t q => by cases q), (fun _ _ _ _ _ => rfl), (fun _ _ => rfl), rfl⟩

def npF (t : Nat) : Nat → Nat
  | 0 => 0
  | i + 1 => npF t i + (if t.testBit i then 1 else 0)
/-- how many a set (of ten at most) has -/
def npop (t : Nat) : Nat := npF t 10
theorem npop_le (t : Nat) : npop t ≤ 10 := by
  have h : ∀ i, npF t i ≤ i := by
    intro i
    induction i with
    | zero => exact Nat.le_refl 0
    | succ i ih =>
      show npF t i + _ ≤ _
      split <;> omega
  exact h 10

def bcI (x : Int32) : Int32 :=
  let x1 := (x - ((x.toUInt32 >>> ((1 : Int32).toUInt32 &&& Int32.toUInt32 31)).toInt32 &&& 1431655765))
  let x2 := ((x1 &&& 858993459) + ((x1.toUInt32 >>> ((2 : Int32).toUInt32 &&& Int32.toUInt32 31)).toInt32 &&& 858993459))
  let x3 := ((x2 + (x2.toUInt32 >>> ((4 : Int32).toUInt32 &&& Int32.toUInt32 31)).toInt32) &&& 252645135)
  let x4 := (x3 + (x3.toUInt32 >>> ((8 : Int32).toUInt32 &&& Int32.toUInt32 31)).toInt32)
  let x5 := (x4 + (x4.toUInt32 >>> ((16 : Int32).toUInt32 &&& Int32.toUInt32 31)).toInt32)
  x5 &&& 63
theorem bcI_ok : ∀ t, t < 1024 → bcI (nI t) = nI (npop t) := by decide +kernel
set_option maxRecDepth 100000 in
theorem cJ_bitCount (x : Int32) {σ : ex_S} {μ : ex_L} : Ci 2 yJ6_bitCount_0f7a4 cJ6_bitCount_0f7a4 1 (some .int) [.int x] TT σ μ (fun z' σ' μ' => z' = bcI x ∧ σ' = σ ∧ μ' = μ) := by
  refine Cl_of (by decide +kernel) (Nat.le_of_ble_eq_true rfl) ?_
  show Ev RJ6 cJ6_bitCount_0f7a4 1 2 0 0 "bitCount" (some .int) ev_ext _ _ 0 0 0 [(0, .int x)] [] TT σ μ
  refine e_iload_n dJ6_bitCount_0f7a4_0 rfl 0 rfl ?_
  refine e_iload_n dJ6_bitCount_0f7a4_1 rfl 0 rfl ?_
  refine e_iconst (v := 1) dJ6_bitCount_0f7a4_2 rfl ?_
  refine e_iushr dJ6_bitCount_0f7a4_3 ?_
  refine e_ldcw dJ6_bitCount_0f7a4_4 kcJ6_265 ?_
  refine e_iand dJ6_bitCount_0f7a4_7 ?_
  refine e_isub dJ6_bitCount_0f7a4_8 ?_
  refine e_name (fun x9 hx9 => ?_)
  refine e_istore_n [(0, .int x9)] dJ6_bitCount_0f7a4_9 rfl (by decide) rfl ?_
  refine e_iload_n dJ6_bitCount_0f7a4_10 rfl 0 rfl ?_
  refine e_ldcw dJ6_bitCount_0f7a4_11 kcJ6_266 ?_
  refine e_iand dJ6_bitCount_0f7a4_14 ?_
  refine e_iload_n dJ6_bitCount_0f7a4_15 rfl 0 rfl ?_
  refine e_iconst (v := 2) dJ6_bitCount_0f7a4_16 rfl ?_
  refine e_iushr dJ6_bitCount_0f7a4_17 ?_
  refine e_ldcw dJ6_bitCount_0f7a4_18 kcJ6_266 ?_
  refine e_iand dJ6_bitCount_0f7a4_21 ?_
  refine e_iadd dJ6_bitCount_0f7a4_22 ?_
  refine e_name (fun x23 hx23 => ?_)
  refine e_istore_n [(0, .int x23)] dJ6_bitCount_0f7a4_23 rfl (by decide) rfl ?_
  refine e_iload_n dJ6_bitCount_0f7a4_24 rfl 0 rfl ?_
  refine e_iload_n dJ6_bitCount_0f7a4_25 rfl 0 rfl ?_
  refine e_iconst (v := 4) dJ6_bitCount_0f7a4_26 rfl ?_
  refine e_iushr dJ6_bitCount_0f7a4_27 ?_
  refine e_iadd dJ6_bitCount_0f7a4_28 ?_
  refine e_ldcw dJ6_bitCount_0f7a4_29 kcJ6_267 ?_
  refine e_iand dJ6_bitCount_0f7a4_32 ?_
  refine e_name (fun x33 hx33 => ?_)
  refine e_istore_n [(0, .int x33)] dJ6_bitCount_0f7a4_33 rfl (by decide) rfl ?_
  refine e_iload_n dJ6_bitCount_0f7a4_34 rfl 0 rfl ?_
  refine e_iload_n dJ6_bitCount_0f7a4_35 rfl 0 rfl ?_
  refine e_bipush (v := 8) dJ6_bitCount_0f7a4_36 rfl ?_
  refine e_iushr dJ6_bitCount_0f7a4_38 ?_
  refine e_iadd dJ6_bitCount_0f7a4_39 ?_
  refine e_name (fun x40 hx40 => ?_)
  refine e_istore_n [(0, .int x40)] dJ6_bitCount_0f7a4_40 rfl (by decide) rfl ?_
  refine e_iload_n dJ6_bitCount_0f7a4_41 rfl 0 rfl ?_
  refine e_iload_n dJ6_bitCount_0f7a4_42 rfl 0 rfl ?_
  refine e_bipush (v := 16) dJ6_bitCount_0f7a4_43 rfl ?_
  refine e_iushr dJ6_bitCount_0f7a4_45 ?_
  refine e_iadd dJ6_bitCount_0f7a4_46 ?_
  refine e_name (fun x47 hx47 => ?_)
  refine e_istore_n [(0, .int x47)] dJ6_bitCount_0f7a4_47 rfl (by decide) rfl ?_
  refine e_iload_n dJ6_bitCount_0f7a4_48 rfl 0 rfl ?_
  refine e_bipush (v := 63) dJ6_bitCount_0f7a4_49 rfl ?_
  refine e_iand dJ6_bitCount_0f7a4_51 ?_
  refine e_reti dJ6_bitCount_0f7a4_52 ev_nwi (Nat.le_refl _) (Nat.le_refl _) ?_
  subst_vars
  exact ⟨rfl, rfl, rfl⟩
