set_option maxRecDepth 100000 in
theorem c3_countReads {b : Nat} (hN : NodesAt b) {S : ns_T} (hV : VS S) {t : Nat} (ht : t < 2 ^ 31) {σ : ex_S} {μ : ex_L}(h0 : σ b 0 = nI (S 0 0)) (h5 : ∀ k, k < S 0 0 → σ (b + 5) k = nI (S 4 k)) : Cv 3 yX3_countReads cX3_countReads 3 none [.ref b, .int (nI t)] TT σ μ (fun σ' μ' => (∀ k, k < S 0 0 → σ' (b + 5) k = nI (if t.testBit k = true then min 9999 (S 4 k + 1) else S 4 k)) ∧ (∀ i, i ≠ b + 5 → σ' i = σ i) ∧ μ' = μ) := by
  refine Cl_of (by decide +kernel) (Nat.le_of_ble_eq_true rfl) ?_
  show Ev RX3 cX3_countReads 3 3 0 0 "countReads" none ev_ext _ _ 0 0 0 [(0, .ref b), (1, .int (nI t))] [] TT σ μ
  have hn := hV.1
  have loop : ∀ (m i : Nat) (σ1 : ex_S), i + m = S 0 0 → (∀ i, i ≠ b + 5 → σ1 i = σ i) → (∀ k, k < S 0 0 → σ1 (b + 5) k = nI (if k < i ∧ t.testBit k = true then min 9999 (S 4 k + 1) else S 4 k)) → Ev RX3 cX3_countReads 3 3 0 0 "countReads" none ev_ext TT.length (fun v9 T9 σ9 μ9 => T9 = TT ∧ v9 = none ∧ (fun σ' μ' => (∀ k, k < S 0 0 → σ' (b + 5) k = nI (if t.testBit k = true then min 9999 (S 4 k + 1) else S 4 k)) ∧ (∀ i, i ≠ b + 5 → σ' i = σ i) ∧ μ' = μ) σ9 μ9) 0 0 2 [(0, .ref b), (1, .int (nI t)), (2, .int (nI i))] [] TT σ1 μ := by
    intro m
    induction m with
    | zero =>
      intro i σ1 hi f1 f2
      obtain rfl : i = S 0 0 := by omega
      refine e_iload_n dX3_countReads_2 rfl 2 rfl ?_
      refine e_aload_n dX3_countReads_3 rfl 0 rfl ?_
      refine e_getI dX3_countReads_4 lkX3_9 (nodes_0 hN) rfl ?_
      rw [f1 b (by omega), h0]
      refine e_icmp_ge (t := 44) dX3_countReads_7 (by decide) (fun h7 => ?_) (fun h7 => ?_)
      · skip
        refine e_retv dX3_countReads_44 (Nat.le_refl _) (Nat.le_refl _) ?_
        refine ⟨fun k hk => ?_, f1, rfl⟩
        rw [f2 k hk]
        by_cases e : t.testBit k = true
        · rw [if_pos ⟨hk, e⟩, if_pos e]
        · rw [if_neg (fun q => e q.2), if_neg e]
      · skip
        exact absurd (show nI (S 0 0) ≤ nI (S 0 0) from (i_le (by omega) (by omega)).mpr (by omega)) h7
    | succ m ih =>
      intro i σ1 hi f1 f2
      have ci := f2 i (by omega)
      rw [if_neg (fun q => absurd q.1 (by omega))] at ci
      have hr := (hV.2.2.2.2.2.2.1 i (by omega)).2.2.1
      refine e_iload_n dX3_countReads_2 rfl 2 rfl ?_
      refine e_aload_n dX3_countReads_3 rfl 0 rfl ?_
      refine e_getI dX3_countReads_4 lkX3_9 (nodes_0 hN) rfl ?_
      rw [f1 b (by omega), h0]
      refine e_icmp_ge (t := 44) dX3_countReads_7 (by decide) (fun h7 => ?_) (fun h7 => ?_)
      · skip
        exact absurd ((i_le (by omega) (by omega)).mp (show nI (S 0 0) ≤ nI i from h7)) (by omega)
      · skip
        refine e_iload_n dX3_countReads_10 rfl 1 rfl ?_
        refine e_iload_n dX3_countReads_11 rfl 2 rfl ?_
        refine e_ishr dX3_countReads_12 ?_
        refine e_iconst (v := 1) dX3_countReads_13 rfl ?_
        refine e_iand dX3_countReads_14 ?_
        refine e_if_eq (t := 38) dX3_countReads_15 (by decide) (fun h15 => ?_) (fun h15 => ?_)
        · skip
          have hbit := (i_bit (by omega) (by omega)).mp h15
          refine e_iinc (nI (i + 1)) [(0, .ref b), (1, .int (nI t)), (2, .int (nI (i + 1)))] dX3_countReads_38 2 rfl (nI_1 i) (by decide) rfl ?_
          refine e_goto (t := 2) dX3_countReads_41 (by decide) ?_
          refine ih (i + 1) _ (by omega) f1 (fun k hk => ?_)
          by_cases e : k = i
          · rw [e, ci]
            rw [if_neg (fun q => by rw [hbit] at q; cases q.2)]
          · rw [f2 k hk]
            by_cases e2 : k < i ∧ t.testBit k = true
            · rw [if_pos e2, if_pos ⟨by omega, e2.2⟩]
            · rw [if_neg e2, if_neg (fun q => e2 ⟨by omega, q.2⟩)]
        · skip
          have hbit : t.testBit i = true := by
            cases hb9 : t.testBit i with
            | true => rfl
            | false => exact absurd ((i_bit (by omega) (by omega)).mpr hb9) h15
          refine e_aload_n dX3_countReads_18 rfl 0 rfl ?_
          refine e_getR dX3_countReads_19 lkX3_37 (nodes_0 hN) rfl ?_
          refine e_iload_n dX3_countReads_22 rfl 2 rfl ?_
          refine e_sipush (v := 9999) dX3_countReads_23 rfl ?_
          refine e_aload_n dX3_countReads_26 rfl 0 rfl ?_
          refine e_getR dX3_countReads_27 lkX3_37 (nodes_0 hN) rfl ?_
          refine e_iload_n dX3_countReads_30 rfl 2 rfl ?_
          refine e_iald dX3_countReads_31 (nodes_5 hN) (vp_in_nI (by omega) (by decide)) ?_
          rw [i_cl (by omega), ci]
          refine e_iconst (v := 1) dX3_countReads_32 rfl ?_
          refine e_iadd dX3_countReads_33 ?_
          rw [show nI (S 4 i) + 1 = nI (S 4 i + 1) from nI_1 _, show (9999 : Int32) = nI 9999 from rfl]
          refine e_mmin dX3_countReads_34 cvX3_89 (Nat.le_of_ble_eq_true rfl) (Nat.le_of_ble_eq_true rfl) (Nat.le_refl _) (Nat.le_refl _) ?_
          rw [i_min (by decide) (by omega)]
          refine e_iast dX3_countReads_37 (nodes_5 hN) (vp_in_nI (by omega) (by decide)) ?_
          refine e_iinc (nI (i + 1)) [(0, .ref b), (1, .int (nI t)), (2, .int (nI (i + 1)))] dX3_countReads_38 2 rfl (nI_1 i) (by decide) rfl ?_
          refine e_goto (t := 2) dX3_countReads_41 (by decide) ?_
          rw [i_cl (by omega)]
          refine ih (i + 1) _ (by omega) (fun k hk => by rw [sup_obj hk]; exact f1 k hk) (fun k hk => ?_)
          by_cases e : k = i
          · rw [e, sup_same, if_pos ⟨by omega, hbit⟩]
          · rw [sup_idx e, f2 k hk]
            by_cases e2 : k < i ∧ t.testBit k = true
            · rw [if_pos e2, if_pos ⟨by omega, e2.2⟩]
            · rw [if_neg e2, if_neg (fun q => e2 ⟨by omega, q.2⟩)]
  refine e_iconst (v := 0) dX3_countReads_0 rfl ?_
  refine e_istore_n [(0, .ref b), (1, .int (nI t)), (2, .int 0)] dX3_countReads_1 rfl (by decide) rfl ?_
  exact loop (S 0 0) 0 σ (by omega) (fun _ _ => rfl) (fun k hk => by rw [if_neg (fun q => absurd q.1 (by omega))]; exact h5 k hk)

/-- by what a node is brought back; the nodes behind that -/
noncomputable def nbk (p : Nat) (S : ns_T) (j : Nat) : Option Nat := if (S 0 3).testBit j = true then nhelp p S j else none
def naft (S : ns_T) (j : Nat) : Option Nat → ns_T
  | none => S
  | some t => nrep S j t
theorem nhelp_lt {p : Nat} {S : ns_T} (hV : VS S) {j t : Nat} (h : nhelp p S j = some t) : t < 1024 := Nat.lt_of_lt_of_le (nhelp_is h).1 (two_n hV)

set_option maxRecDepth 100000 in
set_option maxHeartbeats 1000000 in
theorem c2_bringBack {b : Nat} (hN : NodesAt b) (hb : 31 < b) {p : Nat} (hp : gP p) {S : ns_T} (hV : VS S) {j : Nat} (hj : j < S 0 0) {σ : ex_S} {μ : ex_L}(hC : NC σ b S) (hK : RKI σ p S) (h0 : σ 31 0 = 0) : Ci 8 yX2_bringBack cX2_bringBack 5 (some .int) [.ref 30, .ref b, .int (nI j)] TT σ μ (fun z' σ' μ' => z' = hI ((nbk p S j).map (ncs S)) ∧ NC σ' b (naft S j (nbk p S j)) ∧ (∀ i, i ≠ 31 → (i < b ∨ b + 19 ≤ i) → σ' i = σ i) ∧ σ' 31 0 = 0 ∧ μ' = μ) := by
  refine Cl_of (by decide +kernel) (Nat.le_of_ble_eq_true rfl) ?_
  show Ev RX2 cX2_bringBack 5 8 0 0 "bringBack" (some .int) ev_ext _ _ 0 0 0 [(0, .ref 30), (1, .ref b), (2, .int (nI j))] [] TT σ μ
  have hn := hV.1
  have h2n := two_n hV
  refine e_aload_n dX2_bringBack_0 rfl 1 rfl ?_
  refine e_iload_n dX2_bringBack_1 rfl 2 rfl ?_
  refine e_callVi dX2_bringBack_2 cvX2_43 rfl (nodes_0 hN) rfl (c3_isMissingN hN hV hC hj) (Nat.le_of_ble_eq_true rfl) (Nat.le_refl _) (Nat.le_refl _) rfl (Nat.le_of_ble_eq_true rfl) (fun r2 s2 m2 q2 => ?_)
  obtain ⟨q2, e2, g2⟩ := q2
  rw [e2, g2]
  clear e2 g2 s2 m2
  refine e_if_ne (t := 11) dX2_bringBack_5 (by decide) (fun h5 => ?_) (fun h5 => ?_)
  · skip
    rw [q2, bI_eq0] at h5
    have hm := Classical.not_not.mp h5
    have hb9 : nbk p S j = nhelp p S j := if_pos hm
    refine e_aload_n dX2_bringBack_11 rfl 0 rfl ?_
    refine e_aload_n dX2_bringBack_12 rfl 1 rfl ?_
    refine e_iload_n dX2_bringBack_13 rfl 2 rfl ?_
    refine e_callVi dX2_bringBack_14 cvX2_47 rfl tt_30 rfl (c2_helpOf hN hb hp hV hj hC hK h0) (Nat.le_of_ble_eq_true rfl) (Nat.le_refl _) (Nat.le_refl _) rfl (Nat.le_of_ble_eq_true rfl) (fun r14 s14 m14 q14 => ?_)
    obtain ⟨q14, a1, a2, a3⟩ := q14
    rw [a3]
    have hC1 := hC.to hV (σ' := s14) (fun k h1 h2 => a1 k (by omega))
    refine e_istore_n [(0, .ref 30), (1, .ref b), (2, .int (nI j)), (3, .int r14)] dX2_bringBack_17 rfl (by decide) rfl ?_
    refine e_iload_n dX2_bringBack_18 rfl 3 rfl ?_
    refine e_bipush (v := (-5)) dX2_bringBack_19 rfl ?_
    refine e_icmp_ne (t := 27) dX2_bringBack_21 (by decide) (fun h21 => ?_) (fun h21 => ?_)
    · skip
      obtain ⟨t, ht⟩ : ∃ t, nhelp p S j = some t := by
        cases h9 : nhelp p S j with
        | some t => exact ⟨t, rfl⟩
        | none => rw [q14, h9] at h21; exact absurd rfl h21
      have ht10 := nhelp_lt hV ht
      rw [ht] at q14 hb9
      have q14 : r14 = nI t := q14
      subst q14
      refine e_aload_n dX2_bringBack_27 rfl 1 rfl ?_
      refine e_iload_n dX2_bringBack_28 rfl 3 rfl ?_
      refine e_callVi dX2_bringBack_29 cvX2_51 rfl (nodes_0 hN) rfl (c3_costsOf hN hV (t := t) (by omega) hC1) (Nat.le_of_ble_eq_true rfl) (Nat.le_refl _) (Nat.le_refl _) rfl (Nat.le_of_ble_eq_true rfl) (fun r29 s29 m29 q29 => ?_)
      obtain ⟨q29, e29, g29⟩ := q29
      rw [e29, g29]
      clear e29 g29 s29 m29
      refine e_istore [(0, .ref 30), (1, .ref b), (2, .int (nI j)), (3, .int (nI t)), (4, .int r29)] dX2_bringBack_32 (by decide) rfl ?_
      refine e_aload_n dX2_bringBack_34 rfl 1 rfl ?_
      refine e_dup dX2_bringBack_35 rfl ?_
      
      refine e_getI dX2_bringBack_36 lkX2_54 (nodes_0 hN) rfl ?_
      rw [hC1.2.2.2.1]
      refine e_iconst (v := 1) dX2_bringBack_39 rfl ?_
      refine e_iload_n dX2_bringBack_40 rfl 2 rfl ?_
      refine e_ishl dX2_bringBack_41 ?_
      refine e_iconst (v := (-1)) dX2_bringBack_42 rfl ?_
      refine e_ixor dX2_bringBack_43 ?_
      refine e_iand dX2_bringBack_44 ?_
      rw [show (1 : Int32) <<< (nI j &&& 31) ^^^ (-1) = (nI (2 ^ j) ^^^ (-1)) from by rw [i_shl1 (by omega)], not_i _ _ (by have := hV.2.2.2.2.2.1; omega)]
      refine e_putI dX2_bringBack_45 lkX2_54' (nodes_0 hN) rfl rfl rfl ?_
      refine e_aload_n dX2_bringBack_48 rfl 1 rfl ?_
      refine e_iload_n dX2_bringBack_49 rfl 3 rfl ?_
      refine e_callVv dX2_bringBack_50 cvX2_57 rfl (nodes_0 hN) rfl (c3_countReads hN hV (t := t) (by omega) (σ := sup s14 b 3 (nI (S 0 3 &&& (S 0 3 ^^^ (S 0 3 &&& 2 ^ j))))) (by rw [sup_idx (by decide)]; exact hC1.1) (fun k hk => by rw [sup_obj (by omega)]; exact (hC1.2.2.2.2.1 k hk).2.2.2.2.1)) (Nat.le_of_ble_eq_true rfl) (Nat.le_refl _) (Nat.le_refl _) rfl (Nat.le_of_ble_eq_true rfl) (fun s50 m50 q50 => ?_)
      obtain ⟨b1, b2, b3⟩ := q50
      rw [b3]
      refine e_iload dX2_bringBack_53 4 rfl ?_
      refine e_reti dX2_bringBack_55 ev_nwi (Nat.le_refl _) (Nat.le_refl _) ?_
      refine ⟨by rw [q29, hb9]; rfl, ?_, fun i h1 h2 => by rw [b2 i (by omega), sup_obj (by omega)]; exact a1 i h1, by rw [b2 31 (by omega), sup_obj (by omega)]; exact a2, rfl⟩
      rw [hb9]
      show NC _ b (nrep S j t)
      obtain ⟨n1, n2, n3, n4, n5, n6⟩ := hC1
      have e0 : nrep S j t 0 0 = S 0 0 := nrep_ne (by omega) (by omega)
      have e1 : nrep S j t 0 1 = S 0 1 := nrep_ne (by omega) (by omega)
      have e2 : nrep S j t 0 2 = S 0 2 := nrep_ne (by omega) (by omega)
      unfold NC
      rw [e0, e1, e2, nrep_3, b2 b (by omega)]
      refine ⟨by rw [sup_idx (by decide)]; exact n1, by rw [sup_idx (by decide)]; exact n2, by rw [sup_idx (by decide)]; exact n3, sup_same, fun k hk => ?_, fun e he => ?_⟩
      · obtain ⟨m1, m2, m3, m4, m5, m6⟩ := n5 k hk
        rw [b1 k hk, b2 _ (by omega), b2 _ (by omega), b2 _ (by omega), b2 _ (by omega), b2 _ (by omega), sup_obj (by omega), sup_obj (by omega), sup_obj (by omega), sup_obj (by omega), sup_obj (by omega), show nrep S j t 1 k = S 1 k from nrep_ne (by omega) (by omega), show nrep S j t 2 k = S 2 k from nrep_ne (by omega) (by omega), show nrep S j t 5 k = S 5 k from nrep_ne (by omega) (by omega), show nrep S j t 3 k = S 3 k from nrep_ne (by omega) (by omega), nrep_4]
        exact ⟨m1, m2, m3, m4, rfl, fun q hq => by rw [show nrep S j t (20 + k) q = S (20 + k) q from nrep_ne (by omega) (by omega)]; exact m6 q hq⟩
      · rw [b2 _ (by omega), b2 _ (by omega), sup_obj (by omega), sup_obj (by omega), show nrep S j t 8 e = S 8 e from nrep_ne (by omega) (by omega), show nrep S j t 7 e = S 7 e from nrep_ne (by omega) (by omega)]
        exact n6 e he
    · skip
      have hnn : nhelp p S j = none := by
        cases h9 : nhelp p S j with
        | none => rfl
        | some t =>
          rw [q14, h9] at h21
          exact absurd h21 (hI_some (Nat.lt_trans (nhelp_lt hV h9) (by decide)))
      rw [hnn] at hb9
      refine e_bipush (v := (-5)) dX2_bringBack_24 rfl ?_
      refine e_reti dX2_bringBack_26 ev_nwi (Nat.le_refl _) (Nat.le_refl _) ?_
      exact ⟨by rw [hb9]; rfl, by rw [hb9]; exact hC1, fun i h1 h2 => a1 i h1, a2, rfl⟩
  · skip
    rw [q2, bI_eq0] at h5
    have hb9 : nbk p S j = none := if_neg h5
    refine e_bipush (v := (-5)) dX2_bringBack_8 rfl ?_
    refine e_reti dX2_bringBack_10 ev_nwi (Nat.le_refl _) (Nat.le_refl _) ?_
    exact ⟨by rw [hb9]; rfl, by rw [hb9]; exact hC, fun _ _ _ => rfl, h0, rfl⟩

set_option maxRecDepth 100000 in
theorem c11_helps {p : Nat} (hp : gP p) {S : ns_T} (hV : VS S) {j : Nat} (hj : j < S 0 0) {σ : ex_S} {μ : ex_L}(hF : FR σ p) (hR : NR σ S) : Cv 8 yX11_helps cX11_helps 6 none [.ref 127, .int (nI j)] TT σ μ (fun σ' μ' => σ' 127 36 = hI (nhelp p S j) ∧ σ' 127 37 = hI ((nhelp p S j).map (ncs S)) ∧ FrS σ σ' ∧ μ' = μ) := by
  refine Cl_of (by decide +kernel) (Nat.le_of_ble_eq_true rfl) ?_
  show Ev RX11 cX11_helps 6 8 0 0 "helps" none ev_ext _ _ 0 0 0 [(0, .ref 127), (1, .int (nI j))] [] TT σ μ
  have hn := hV.1
  have h2n := two_n hV
  have hol := noth_lt hV j
  have outer : ∀ (m s : Nat) (σ1 : ex_S) (best : Option Nat), s + m = 2 ^ S 0 0 → FrS σ σ1 → σ1 127 36 = hI best → σ1 127 37 = hI (best.map (ncs S)) → (∀ r, best = some r → r < s ∧ Hp p S (noth S j) j r ∧ ∀ s2, s2 < s → Hp p S (noth S j) j s2 → ncs S r < ncs S s2 ∨ (ncs S r = ncs S s2 ∧ r ≤ s2)) → (best = none → ∀ s2, s2 < s → ¬ Hp p S (noth S j) j s2) → Ev RX11 cX11_helps 6 8 0 0 "helps" none ev_ext TT.length (fun v9 T9 σ9 μ9 => T9 = TT ∧ v9 = none ∧ (fun σ' μ' => σ' 127 36 = hI (nhelp p S j) ∧ σ' 127 37 = hI ((nhelp p S j).map (ncs S)) ∧ FrS σ σ' ∧ μ' = μ) σ9 μ9) 0 0 25 [(0, .ref 127), (1, .int (nI j)), (2, .int (nI (noth S j))), (3, .int (nI s))] [] TT σ1 μ := by
    intro m
    induction m with
    | zero =>
      intro s σ1 best hs f1 f2 f3 f4 f5
      obtain rfl : s = 2 ^ S 0 0 := by omega
      have hR1 := hR.toS f1
      have hbest : nhelp p S j = best := by
        cases best with
        | none => exact nhelp_none (f5 rfl)
        | some r => exact nhelp_some (f4 r rfl)
      refine e_iload_n dX11_helps_25 rfl 3 rfl ?_
      refine e_iconst (v := 1) dX11_helps_26 rfl ?_
      refine e_aload_n dX11_helps_27 rfl 0 rfl ?_
      refine e_getI dX11_helps_28 lkX11_95 tt_127 rfl ?_
      rw [hR1.1]
      refine e_ishl dX11_helps_31 ?_
      rw [i_shl1 (by omega)]
      refine e_icmp_ge (t := 136) dX11_helps_32 (by decide) (fun h32 => ?_) (fun h32 => ?_)
      · skip
        refine e_retv dX11_helps_136 (Nat.le_refl _) (Nat.le_refl _) ?_
        exact ⟨by rw [hbest]; exact f2, by rw [hbest]; exact f3, f1, rfl⟩
      · skip
        exact absurd (show nI (2 ^ S 0 0) ≤ nI (2 ^ S 0 0) from (i_le (by omega) (by omega)).mpr (by omega)) h32
    | succ m ih =>
      intro s σ1 best hs f1 f2 f3 f4 f5
      have hR1 := hR.toS f1
      have hF1 := hF.toS f1
      have hcs := ncs_le hV s
      have keepb : ¬ Hp p S (noth S j) j s → ((∀ r, best = some r → r < s + 1 ∧ Hp p S (noth S j) j r ∧ ∀ s2, s2 < s + 1 → Hp p S (noth S j) j s2 → ncs S r < ncs S s2 ∨ (ncs S r = ncs S s2 ∧ r ≤ s2)) ∧ (best = none → ∀ s2, s2 < s + 1 → ¬ Hp p S (noth S j) j s2)) := by
        intro hno
        refine ⟨fun r hr => ?_, fun hb s2 h2 hq => ?_⟩
        · obtain ⟨g1, g2, g3⟩ := f4 r hr
          refine ⟨by omega, g2, fun s2 h2 hq => ?_⟩
          by_cases e : s2 = s
          · rw [e] at hq; exact absurd hq hno
          · exact g3 s2 (by omega) hq
        · by_cases e : s2 = s
          · rw [e] at hq; exact hno hq
          · exact f5 hb s2 (by omega) hq
      have inner : s &&& noth S j = s → ∀ (m2 i : Nat), i + m2 = S 0 0 → Ev RX11 cX11_helps 6 8 0 0 "helps" none ev_ext TT.length (fun v9 T9 σ9 μ9 => T9 = TT ∧ v9 = none ∧ (fun σ' μ' => σ' 127 36 = hI (nhelp p S j) ∧ σ' 127 37 = hI ((nhelp p S j).map (ncs S)) ∧ FrS σ σ' ∧ μ' = μ) σ9 μ9) 0 0 52 [(0, .ref 127), (1, .int (nI j)), (2, .int (nI (noth S j))), (3, .int (nI s)), (4, .int (nI (ncsF S s i))), (5, .int (nI i))] [] TT σ1 μ := by
        intro hsub m2
        induction m2 with
        | zero =>
          intro i hi
          obtain rfl : i = S 0 0 := by omega
          refine e_iload dX11_helps_52 5 rfl ?_
          refine e_aload_n dX11_helps_54 rfl 0 rfl ?_
          refine e_getI dX11_helps_55 lkX11_95 tt_127 rfl ?_
          rw [hR1.1]
          refine e_icmp_ge (t := 87) dX11_helps_58 (by decide) (fun h58 => ?_) (fun h58 => ?_)
          · skip
            refine e_aload_n dX11_helps_87 rfl 0 rfl ?_
            refine e_getI dX11_helps_88 lkX11_190 tt_127 rfl ?_
            refine e_bipush (v := (-5)) dX11_helps_91 rfl ?_
            refine e_icmp_eq (t := 105) dX11_helps_93 (by decide) (fun h93 => ?_) (fun h93 => ?_)
            · skip
              skip
              refine e_aload_n dX11_helps_105 rfl 0 rfl ?_
              refine e_iload_n dX11_helps_106 rfl 3 rfl ?_
              refine e_iconst (v := 1) dX11_helps_107 rfl ?_
              refine e_iload_n dX11_helps_108 rfl 1 rfl ?_
              refine e_ishl dX11_helps_109 ?_
              rw [i_shl1 (by omega)]
              refine e_callVi dX11_helps_110 cvX11_221 rfl tt_127 rfl (c11_tells hp hV (t := s) (u := 2 ^ j) (by omega) (Nat.lt_of_lt_of_le (Nat.pow_lt_pow_right (by decide) hj) (by omega)) hF1 hR1) (Nat.le_of_ble_eq_true rfl) (Nat.le_refl _) (Nat.le_refl _) rfl (Nat.le_of_ble_eq_true rfl) (fun r110 s110 m110 q110 => ?_)
              obtain ⟨q110, a1, a2⟩ := q110
              rw [a2]
              refine e_if_ne (t := 119) dX11_helps_113 (by decide) (fun h113 => ?_) (fun h113 => ?_)
              · skip
                skip
                refine e_aload_n dX11_helps_119 rfl 0 rfl ?_
                refine e_iload_n dX11_helps_120 rfl 3 rfl ?_
                refine e_putI dX11_helps_121 lkX11_190' tt_127 rfl rfl rfl ?_
                refine e_aload_n dX11_helps_124 rfl 0 rfl ?_
                refine e_iload dX11_helps_125 4 rfl ?_
                refine e_putI dX11_helps_127 lkX11_193' tt_127 rfl rfl rfl ?_
                refine e_iinc (nI (s + 1)) [(0, .ref 127), (1, .int (nI j)), (2, .int (nI (noth S j))), (3, .int (nI (s + 1))), (4, .int (nI (ncsF S s (S 0 0)))), (5, .int (nI (S 0 0)))] dX11_helps_130 3 rfl (nI_1 s) (by decide) rfl ?_
                refine e_goto (t := 25) dX11_helps_133 (by decide) ?_
                refine e_lv [(0, .ref 127), (1, .int (nI j)), (2, .int (nI (noth S j))), (3, .int (nI (s + 1)))] (List.forall_mem_cons.mpr ⟨List.mem_of_getElem? (i := 0) rfl, List.forall_mem_cons.mpr ⟨List.mem_of_getElem? (i := 1) rfl, List.forall_mem_cons.mpr ⟨List.mem_of_getElem? (i := 2) rfl, List.forall_mem_cons.mpr ⟨List.mem_of_getElem? (i := 3) rfl, fun _ h => absurd h List.not_mem_nil⟩⟩⟩⟩) ?_
                have hyes : Hp p S (noth S j) j s := ⟨hsub, by
                  rw [q110, bI_eq0] at h113
                  exact Classical.not_not.mp h113⟩
                refine ih (s + 1) _ (some s) (by omega) ((f1.tr a1.S).tr ((FrS.set (by decide) (by decide)).tr (FrS.set (by decide) (by decide)))) (by rw [sup_idx (by decide), sup_same]; rfl) (by rw [sup_same]; rfl) (fun r hr => ?_) (fun q => by cases q)
                cases hr
                refine ⟨by omega, hyes, fun s2 h2 hq => ?_⟩
                by_cases e : s2 = s
                · rw [e]; exact Or.inr ⟨rfl, Nat.le_refl _⟩
                · exact absurd hq (f5 (by
                    cases best with
                    | none => rfl
                    | some r => exact absurd (show nI r = -5 from by rw [f2] at h93; exact h93) (hI_some (by have := (f4 r rfl).1; omega))) s2 (by omega))
              · skip
                skip
                refine e_goto (t := 130) dX11_helps_116 (by decide) ?_
                refine e_iinc (nI (s + 1)) [(0, .ref 127), (1, .int (nI j)), (2, .int (nI (noth S j))), (3, .int (nI (s + 1))), (4, .int (nI (ncsF S s (S 0 0)))), (5, .int (nI (S 0 0)))] dX11_helps_130 3 rfl (nI_1 s) (by decide) rfl ?_
                refine e_goto (t := 25) dX11_helps_133 (by decide) ?_
                refine e_lv [(0, .ref 127), (1, .int (nI j)), (2, .int (nI (noth S j))), (3, .int (nI (s + 1)))] (List.forall_mem_cons.mpr ⟨List.mem_of_getElem? (i := 0) rfl, List.forall_mem_cons.mpr ⟨List.mem_of_getElem? (i := 1) rfl, List.forall_mem_cons.mpr ⟨List.mem_of_getElem? (i := 2) rfl, List.forall_mem_cons.mpr ⟨List.mem_of_getElem? (i := 3) rfl, fun _ h => absurd h List.not_mem_nil⟩⟩⟩⟩) ?_
                have hno : ¬ Hp p S (noth S j) j s := fun q => by
                  rw [q110, bI_eq0] at h113
                  exact h113 q.2
                obtain ⟨k1, k2⟩ := keepb hno
                exact ih (s + 1) s110 best (by omega) (f1.tr a1.S) (by rw [a1.2 36 (by decide)]; exact f2) (by rw [a1.2 37 (by decide)]; exact f3) k1 k2
            · skip
              skip
              refine e_iload dX11_helps_96 4 rfl ?_
              refine e_aload_n dX11_helps_98 rfl 0 rfl ?_
              refine e_getI dX11_helps_99 lkX11_193 tt_127 rfl ?_
              refine e_icmp_ge (t := 130) dX11_helps_102 (by decide) (fun h102 => ?_) (fun h102 => ?_)
              · skip
                skip
                refine e_iinc (nI (s + 1)) [(0, .ref 127), (1, .int (nI j)), (2, .int (nI (noth S j))), (3, .int (nI (s + 1))), (4, .int (nI (ncsF S s (S 0 0)))), (5, .int (nI (S 0 0)))] dX11_helps_130 3 rfl (nI_1 s) (by decide) rfl ?_
                refine e_goto (t := 25) dX11_helps_133 (by decide) ?_
                refine e_lv [(0, .ref 127), (1, .int (nI j)), (2, .int (nI (noth S j))), (3, .int (nI (s + 1)))] (List.forall_mem_cons.mpr ⟨List.mem_of_getElem? (i := 0) rfl, List.forall_mem_cons.mpr ⟨List.mem_of_getElem? (i := 1) rfl, List.forall_mem_cons.mpr ⟨List.mem_of_getElem? (i := 2) rfl, List.forall_mem_cons.mpr ⟨List.mem_of_getElem? (i := 3) rfl, fun _ h => absurd h List.not_mem_nil⟩⟩⟩⟩) ?_
                have hb : ∃ r, best = some r := by
                  cases best with
                  | none => exact absurd f2 h93
                  | some r => exact ⟨r, rfl⟩
                obtain ⟨r, rfl⟩ := hb
                obtain ⟨g1, g2, g3⟩ := f4 r rfl
                have hle := (i_le (by have := ncs_le hV r; omega) (by omega)).mp (show nI (ncs S r) ≤ nI (ncs S s) from by rw [f3] at h102; exact h102)
                refine ih (s + 1) σ1 (some r) (by omega) f1 f2 f3 (fun r2 hr2 => ?_) (fun q => by cases q)
                cases hr2
                refine ⟨by omega, g2, fun s2 h2 hq => ?_⟩
                by_cases e : s2 = s
                · rw [e]; omega
                · exact g3 s2 (by omega) hq
              · skip
                refine e_aload_n dX11_helps_105 rfl 0 rfl ?_
                refine e_iload_n dX11_helps_106 rfl 3 rfl ?_
                refine e_iconst (v := 1) dX11_helps_107 rfl ?_
                refine e_iload_n dX11_helps_108 rfl 1 rfl ?_
                refine e_ishl dX11_helps_109 ?_
                rw [i_shl1 (by omega)]
                refine e_callVi dX11_helps_110 cvX11_221 rfl tt_127 rfl (c11_tells hp hV (t := s) (u := 2 ^ j) (by omega) (Nat.lt_of_lt_of_le (Nat.pow_lt_pow_right (by decide) hj) (by omega)) hF1 hR1) (Nat.le_of_ble_eq_true rfl) (Nat.le_refl _) (Nat.le_refl _) rfl (Nat.le_of_ble_eq_true rfl) (fun r110 s110 m110 q110 => ?_)
                obtain ⟨q110, a1, a2⟩ := q110
                rw [a2]
                refine e_if_ne (t := 119) dX11_helps_113 (by decide) (fun h113 => ?_) (fun h113 => ?_)
                · skip
                  skip
                  refine e_aload_n dX11_helps_119 rfl 0 rfl ?_
                  refine e_iload_n dX11_helps_120 rfl 3 rfl ?_
                  refine e_putI dX11_helps_121 lkX11_190' tt_127 rfl rfl rfl ?_
                  refine e_aload_n dX11_helps_124 rfl 0 rfl ?_
                  refine e_iload dX11_helps_125 4 rfl ?_
                  refine e_putI dX11_helps_127 lkX11_193' tt_127 rfl rfl rfl ?_
                  refine e_iinc (nI (s + 1)) [(0, .ref 127), (1, .int (nI j)), (2, .int (nI (noth S j))), (3, .int (nI (s + 1))), (4, .int (nI (ncsF S s (S 0 0)))), (5, .int (nI (S 0 0)))] dX11_helps_130 3 rfl (nI_1 s) (by decide) rfl ?_
                  refine e_goto (t := 25) dX11_helps_133 (by decide) ?_
                  refine e_lv [(0, .ref 127), (1, .int (nI j)), (2, .int (nI (noth S j))), (3, .int (nI (s + 1)))] (List.forall_mem_cons.mpr ⟨List.mem_of_getElem? (i := 0) rfl, List.forall_mem_cons.mpr ⟨List.mem_of_getElem? (i := 1) rfl, List.forall_mem_cons.mpr ⟨List.mem_of_getElem? (i := 2) rfl, List.forall_mem_cons.mpr ⟨List.mem_of_getElem? (i := 3) rfl, fun _ h => absurd h List.not_mem_nil⟩⟩⟩⟩) ?_
                  have hyes : Hp p S (noth S j) j s := ⟨hsub, by
                    rw [q110, bI_eq0] at h113
                    exact Classical.not_not.mp h113⟩
                  refine ih (s + 1) _ (some s) (by omega) ((f1.tr a1.S).tr ((FrS.set (by decide) (by decide)).tr (FrS.set (by decide) (by decide)))) (by rw [sup_idx (by decide), sup_same]; rfl) (by rw [sup_same]; rfl) (fun r hr => ?_) (fun q => by cases q)
                  cases hr
                  refine ⟨by omega, hyes, fun s2 h2 hq => ?_⟩
                  by_cases e : s2 = s
                  · rw [e]; exact Or.inr ⟨rfl, Nat.le_refl _⟩
                  · have hb : ∃ r, best = some r := by
                      cases best with
                      | none => exact absurd f2 h93
                      | some r => exact ⟨r, rfl⟩
                    obtain ⟨r, rfl⟩ := hb
                    have hlt := (i_lt (by omega) (by have := ncs_le hV r; omega)).mp (show nI (ncs S s) < nI (ncs S r) from by rw [f3] at h102; exact i32_nle h102)
                    have := (f4 r rfl).2.2 s2 (by omega) hq
                    omega
                · skip
                  skip
                  refine e_goto (t := 130) dX11_helps_116 (by decide) ?_
                  refine e_iinc (nI (s + 1)) [(0, .ref 127), (1, .int (nI j)), (2, .int (nI (noth S j))), (3, .int (nI (s + 1))), (4, .int (nI (ncsF S s (S 0 0)))), (5, .int (nI (S 0 0)))] dX11_helps_130 3 rfl (nI_1 s) (by decide) rfl ?_
                  refine e_goto (t := 25) dX11_helps_133 (by decide) ?_
                  refine e_lv [(0, .ref 127), (1, .int (nI j)), (2, .int (nI (noth S j))), (3, .int (nI (s + 1)))] (List.forall_mem_cons.mpr ⟨List.mem_of_getElem? (i := 0) rfl, List.forall_mem_cons.mpr ⟨List.mem_of_getElem? (i := 1) rfl, List.forall_mem_cons.mpr ⟨List.mem_of_getElem? (i := 2) rfl, List.forall_mem_cons.mpr ⟨List.mem_of_getElem? (i := 3) rfl, fun _ h => absurd h List.not_mem_nil⟩⟩⟩⟩) ?_
                  have hno : ¬ Hp p S (noth S j) j s := fun q => by
                    rw [q110, bI_eq0] at h113
                    exact h113 q.2
                  obtain ⟨k1, k2⟩ := keepb hno
                  exact ih (s + 1) s110 best (by omega) (f1.tr a1.S) (by rw [a1.2 36 (by decide)]; exact f2) (by rw [a1.2 37 (by decide)]; exact f3) k1 k2
          · skip
            exact absurd (show nI (S 0 0) ≤ nI (S 0 0) from (i_le (by omega) (by omega)).mpr (by omega)) h58
        | succ m2 ih2 =>
          intro i hi
          have e2 : ncsF S s (i + 1) = ncsF S s i + (if s.testBit i then ncost S i else 0) := rfl
          refine e_iload dX11_helps_52 5 rfl ?_
          refine e_aload_n dX11_helps_54 rfl 0 rfl ?_
          refine e_getI dX11_helps_55 lkX11_95 tt_127 rfl ?_
          rw [hR1.1]
          refine e_icmp_ge (t := 87) dX11_helps_58 (by decide) (fun h58 => ?_) (fun h58 => ?_)
          · skip
            exact absurd ((i_le (by omega) (by omega)).mp (show nI (S 0 0) ≤ nI i from h58)) (by omega)
          · skip
            refine e_iload_n dX11_helps_61 rfl 3 rfl ?_
            refine e_iload dX11_helps_62 5 rfl ?_
            refine e_callSi dX11_helps_64 cvX11_103 rfl (c11_isIn (nI s) (nI i)) (Nat.le_of_ble_eq_true rfl) (Nat.le_refl _) (Nat.le_refl _) rfl (Nat.le_of_ble_eq_true rfl) (fun r64 s64 m64 q64 => ?_)
            obtain ⟨q64, e64, g64⟩ := q64
            rw [e64, g64]
            clear e64 g64 s64 m64
            refine e_if_eq (t := 81) dX11_helps_67 (by decide) (fun h67 => ?_) (fun h67 => ?_)
            · skip
              rw [q64, bI_eq0, i_bit1 (by omega) (by omega)] at h67
              rw [if_neg h67, Nat.add_zero] at e2
              refine e_iinc (nI (i + 1)) [(0, .ref 127), (1, .int (nI j)), (2, .int (nI (noth S j))), (3, .int (nI s)), (4, .int (nI (ncsF S s i))), (5, .int (nI (i + 1)))] dX11_helps_81 5 rfl (nI_1 i) (by decide) rfl ?_
              refine e_goto (t := 52) dX11_helps_84 (by decide) ?_
              have h9 := ih2 (i + 1) (by omega)
              rw [e2] at h9
              exact h9
            · skip
              rw [q64, bI_eq0, i_bit1 (by omega) (by omega)] at h67
              rw [if_pos (Classical.not_not.mp h67)] at e2
              refine e_iload dX11_helps_70 4 rfl ?_
              refine e_aload_n dX11_helps_72 rfl 0 rfl ?_
              refine e_iload dX11_helps_73 5 rfl ?_
              refine e_callVi dX11_helps_75 cvX11_183 rfl tt_127 rfl (c11_cost hV hR1 (j := i) (by omega)) (Nat.le_of_ble_eq_true rfl) (Nat.le_refl _) (Nat.le_refl _) rfl (Nat.le_of_ble_eq_true rfl) (fun r75 s75 m75 q75 => ?_)
              obtain ⟨q75, e75, g75⟩ := q75
              rw [e75, g75]
              clear e75 g75 s75 m75
              rw [q75]
              refine e_iadd dX11_helps_78 ?_
              rw [i_add]
              refine e_istore [(0, .ref 127), (1, .int (nI j)), (2, .int (nI (noth S j))), (3, .int (nI s)), (4, .int (nI (ncsF S s i + ncost S i))), (5, .int (nI i))] dX11_helps_79 (by decide) rfl ?_
              refine e_iinc (nI (i + 1)) [(0, .ref 127), (1, .int (nI j)), (2, .int (nI (noth S j))), (3, .int (nI s)), (4, .int (nI (ncsF S s i + ncost S i))), (5, .int (nI (i + 1)))] dX11_helps_81 5 rfl (nI_1 i) (by decide) rfl ?_
              refine e_goto (t := 52) dX11_helps_84 (by decide) ?_
              have h9 := ih2 (i + 1) (by omega)
              rw [e2] at h9
              exact h9
      refine e_iload_n dX11_helps_25 rfl 3 rfl ?_
      refine e_iconst (v := 1) dX11_helps_26 rfl ?_
      refine e_aload_n dX11_helps_27 rfl 0 rfl ?_
      refine e_getI dX11_helps_28 lkX11_95 tt_127 rfl ?_
      rw [hR1.1]
      refine e_ishl dX11_helps_31 ?_
      rw [i_shl1 (by omega)]
      refine e_icmp_ge (t := 136) dX11_helps_32 (by decide) (fun h32 => ?_) (fun h32 => ?_)
      · skip
        exact absurd ((i_le (by omega) (by omega)).mp (show nI (2 ^ S 0 0) ≤ nI s from h32)) (by omega)
      · skip
        refine e_iload_n dX11_helps_35 rfl 3 rfl ?_
        refine e_iload_n dX11_helps_36 rfl 2 rfl ?_
        refine e_iconst (v := (-1)) dX11_helps_37 rfl ?_
        refine e_ixor dX11_helps_38 ?_
        refine e_iand dX11_helps_39 ?_
        rw [not_i _ _ (by omega)]
        refine e_if_eq (t := 46) dX11_helps_40 (by decide) (fun h40 => ?_) (fun h40 => ?_)
        · skip
          refine e_iconst (v := 0) dX11_helps_46 rfl ?_
          refine e_istore [(0, .ref 127), (1, .int (nI j)), (2, .int (nI (noth S j))), (3, .int (nI s)), (4, .int 0)] dX11_helps_47 (by decide) rfl ?_
          refine e_iconst (v := 0) dX11_helps_49 rfl ?_
          refine e_istore [(0, .ref 127), (1, .int (nI j)), (2, .int (nI (noth S j))), (3, .int (nI s)), (4, .int 0), (5, .int 0)] dX11_helps_50 (by decide) rfl ?_
          exact inner ((sub_iff s _).mp ((i_eq (Nat.lt_of_le_of_lt Nat.and_le_left (by omega)) (by decide)).mp (show nI _ = nI 0 from h40))) (S 0 0) 0 (by omega)
        · skip
          refine e_goto (t := 130) dX11_helps_43 (by decide) ?_
          refine e_iinc (nI (s + 1)) [(0, .ref 127), (1, .int (nI j)), (2, .int (nI (noth S j))), (3, .int (nI (s + 1)))] dX11_helps_130 3 rfl (nI_1 s) (by decide) rfl ?_
          refine e_goto (t := 25) dX11_helps_133 (by decide) ?_
          obtain ⟨k1, k2⟩ := keepb (fun q => h40 (by rw [(sub_iff s _).mpr q.1]; rfl))
          exact ih (s + 1) σ1 best (by omega) f1 f2 f3 k1 k2
  refine e_aload_n dX11_helps_0 rfl 0 rfl ?_
  refine e_bipush (v := (-5)) dX11_helps_1 rfl ?_
  refine e_putI dX11_helps_3 lkX11_190' tt_127 rfl rfl rfl ?_
  refine e_aload_n dX11_helps_6 rfl 0 rfl ?_
  refine e_bipush (v := (-5)) dX11_helps_7 rfl ?_
  refine e_putI dX11_helps_9 lkX11_193' tt_127 rfl rfl rfl ?_
  refine e_aload_n dX11_helps_12 rfl 0 rfl ?_
  refine e_callVi dX11_helps_13 cvX11_218 rfl tt_127 rfl (c11_there hV (hR.toS ((FrS.set (v := -5) (k := 36) (by decide) (by decide)).tr (FrS.set (v := -5) (k := 37) (by decide) (by decide))))) (Nat.le_of_ble_eq_true rfl) (Nat.le_refl _) (Nat.le_refl _) rfl (Nat.le_of_ble_eq_true rfl) (fun r13 s13 m13 q13 => ?_)
  obtain ⟨q13, e13, g13⟩ := q13
  rw [e13, g13]
  clear e13 g13 s13 m13
  refine e_iconst (v := 1) dX11_helps_16 rfl ?_
  refine e_iload_n dX11_helps_17 rfl 1 rfl ?_
  refine e_ishl dX11_helps_18 ?_
  refine e_iconst (v := (-1)) dX11_helps_19 rfl ?_
  refine e_ixor dX11_helps_20 ?_
  refine e_iand dX11_helps_21 ?_
  rw [q13, i_oth hV hj]
  refine e_istore_n [(0, .ref 127), (1, .int (nI j)), (2, .int (nI (noth S j)))] dX11_helps_22 rfl (by decide) rfl ?_
  refine e_iconst (v := 0) dX11_helps_23 rfl ?_
  refine e_istore_n [(0, .ref 127), (1, .int (nI j)), (2, .int (nI (noth S j))), (3, .int 0)] dX11_helps_24 rfl (by decide) rfl ?_
  exact outer (2 ^ S 0 0) 0 _ none (by omega) ((FrS.set (by decide) (by decide)).tr (FrS.set (by decide) (by decide))) (by rw [sup_idx (by decide), sup_same]; rfl) (by rw [sup_same]; rfl) (fun r hr => by cases hr) (fun _ s2 h2 => absurd h2 (by omega))
