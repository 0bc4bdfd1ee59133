/-! taken, count, shown, looked, feed -/
/-- KIND a stands under KIND b -/
def nund (a b : Nat) : Bool := decide (a = b) || decide (b = 0) || (decide (3 < a) && decide (a - 3 = b))
def nup1 (a : Nat) : Nat := if 3 < a then a - 3 else 0
theorem nund_eq {a : Nat} : nund a a = true := by
  unfold nund
  rw [decide_eq_true rfl]
  rfl
theorem nund_step : ∀ a, a < 7 → ∀ b, b < 7 → a ≠ b → a ≠ 0 → nund a b = nund (nup1 a) b := by decide +kernel
theorem nund_0 : ∀ b, b < 7 → b ≠ 0 → nund 0 b = false := by decide +kernel
theorem nup1_lt : ∀ a, a < 7 → a ≠ 0 → nup1 a < a := by decide +kernel
theorem ev_up_s : ∀ a, a < 7 → a ≠ 0 → ev_up a = nI (nup1 a) := by decide +kernel
theorem i_up1 : ∀ a, a < 7 → (if (3 : Int32) < nI a then nI a - 3 else 0) = nI (nup1 a) := by decide +kernel
noncomputable def ntaken (S : ns_T) (x k : Int32) : Int32 := cif (0 ≤ k ∧ k ≤ 6) (cif (0 ≤ x ∧ x < nI (S 0 0)) (cif (nund (S 1 x.toNatClampNeg) k.toNatClampNeg = true) (nI (S 1 x.toNatClampNeg)) (-12)) (-11)) (-2)

set_option maxRecDepth 100000 in
theorem c10_isUnder {a b : Nat} (ha : a < 7) (hb : b < 7) {σ : ex_S} {μ : ex_L} : Ci 3 yX10_isUnder cX10_isUnder 4 (some .boolean) [.int (nI a), .int (nI b)] TT σ μ (fun z' σ' μ' => z' = bI (nund a b = true) ∧ σ' = σ ∧ μ' = μ) := by
  refine Cl_of (by decide +kernel) (Nat.le_of_ble_eq_true rfl) ?_
  show Ev RX10 cX10_isUnder 4 3 0 0 "isUnder" (some .boolean) ev_ext _ _ 0 0 0 [(0, .int (nI a)), (1, .int (nI b))] [] TT σ μ
  have dead : nund a b = false → ∀ s, s < 10 → Ev RX10 cX10_isUnder 4 3 0 0 "isUnder" (some .boolean) ev_ext TT.length (fun v9 T9 σ9 μ9 => T9 = TT ∧ ∃ z9, v9 = some (.int z9) ∧ (fun z' σ' μ' => z' = bI (nund a b = true) ∧ σ' = σ ∧ μ' = μ) z9 σ9 μ9) 0 0 4 [(0, .int (nI a)), (1, .int (nI b)), (2, .int (-1)), (3, .int (nI s))] [] TT σ μ := by
    intro hf s hs
    refine e_iload_n dX10_isUnder_4 rfl 3 rfl ?_
    refine e_above dX10_isUnder_5 kfX10_161 ?_
    refine e_xlen dX10_isUnder_8 (List.mem_singleton_self _) ?_
    refine e_icmp_ge (t := 38) dX10_isUnder_9 (by decide) (fun h9 => ?_) (fun h9 => ?_)
    · skip
      refine e_iconst (v := 0) dX10_isUnder_38 rfl ?_
      refine e_reti dX10_isUnder_39 ev_nw0 (Nat.le_refl _) (Nat.le_refl _) ?_
      exact ⟨by rw [hf]; rfl, rfl, rfl⟩
    · skip
      refine e_iload_n dX10_isUnder_12 rfl 2 rfl ?_
      refine e_callSi dX10_isUnder_13 cvX10_124 rfl (c10_isKind (-1)) (Nat.le_of_ble_eq_true rfl) (Nat.le_refl _) (Nat.le_refl _) rfl (Nat.le_of_ble_eq_true rfl) (fun r13 s13 m13 q13 => ?_)
      obtain ⟨q13, e13, g13⟩ := q13
      rw [e13, g13]
      clear e13 g13 s13 m13
      refine e_if_eq (t := 38) dX10_isUnder_16 (by decide) (fun h16 => ?_) (fun h16 => ?_)
      · skip
        refine e_iconst (v := 0) dX10_isUnder_38 rfl ?_
        refine e_reti dX10_isUnder_39 ev_nw0 (Nat.le_refl _) (Nat.le_refl _) ?_
        exact ⟨by rw [hf]; rfl, rfl, rfl⟩
      · skip
        exact absurd (show r13 = 0 from q13) h16
  have loop : ∀ (m c s : Nat), c ≤ m → c + s ≤ 6 → nund a b = nund c b → Ev RX10 cX10_isUnder 4 3 0 0 "isUnder" (some .boolean) ev_ext TT.length (fun v9 T9 σ9 μ9 => T9 = TT ∧ ∃ z9, v9 = some (.int z9) ∧ (fun z' σ' μ' => z' = bI (nund a b = true) ∧ σ' = σ ∧ μ' = μ) z9 σ9 μ9) 0 0 4 [(0, .int (nI a)), (1, .int (nI b)), (2, .int (nI c)), (3, .int (nI s))] [] TT σ μ := by
    intro m
    induction m with
    | zero =>
      intro c s hc hs hR
      obtain rfl : c = 0 := by omega
      refine e_iload_n dX10_isUnder_4 rfl 3 rfl ?_
      refine e_above dX10_isUnder_5 kfX10_161 ?_
      refine e_xlen dX10_isUnder_8 (List.mem_singleton_self _) ?_
      refine e_icmp_ge (t := 38) dX10_isUnder_9 (by decide) (fun h9 => ?_) (fun h9 => ?_)
      · skip
        exact absurd ((i_le (a := 7) (by decide) (by omega)).mp h9) (by omega)
      · skip
        refine e_iload_n dX10_isUnder_12 rfl 2 rfl ?_
        refine e_callSi dX10_isUnder_13 cvX10_124 rfl (c10_isKind (nI 0)) (Nat.le_of_ble_eq_true rfl) (Nat.le_refl _) (Nat.le_refl _) rfl (Nat.le_of_ble_eq_true rfl) (fun r13 s13 m13 q13 => ?_)
        obtain ⟨q13, e13, g13⟩ := q13
        rw [e13, g13]
        clear e13 g13 s13 m13
        refine e_if_eq (t := 38) dX10_isUnder_16 (by decide) (fun h16 => ?_) (fun h16 => ?_)
        · skip
          rw [q13, bI_eq0] at h16
          exact absurd ⟨i_nn (show 0 < 2 ^ 31 by omega), (i_lt (b := 7) (by omega) (by decide)).mpr (by omega)⟩ h16
        · skip
          refine e_iload_n dX10_isUnder_19 rfl 2 rfl ?_
          refine e_iload_n dX10_isUnder_20 rfl 1 rfl ?_
          refine e_icmp_ne (t := 26) dX10_isUnder_21 (by decide) (fun h21 => ?_) (fun h21 => ?_)
          · skip
            refine e_above dX10_isUnder_26 kfX10_161 ?_
            refine e_iload_n dX10_isUnder_29 rfl 2 rfl ?_
            refine e_xald dX10_isUnder_30 (List.mem_singleton_self _) (vp_in_nI (by decide) (by decide)) ?_
            rw [show ev_up (nI 0).toNatClampNeg = -1 from rfl]
            refine e_istore_n [(0, .int (nI a)), (1, .int (nI b)), (2, .int (-1)), (3, .int (nI s))] dX10_isUnder_31 rfl (by decide) rfl ?_
            refine e_iinc (nI (s + 1)) [(0, .int (nI a)), (1, .int (nI b)), (2, .int (-1)), (3, .int (nI (s + 1)))] dX10_isUnder_32 3 rfl (nI_1 s) (by decide) rfl ?_
            refine e_goto (t := 4) dX10_isUnder_35 (by decide) ?_
            have hb0 : b ≠ 0 := fun q => h21 (by rw [q])
            exact dead (by rw [hR, nund_0 b hb hb0]) (s + 1) (by omega)
          · skip
            refine e_iconst (v := 1) dX10_isUnder_24 rfl ?_
            refine e_reti dX10_isUnder_25 ev_nw1 (Nat.le_refl _) (Nat.le_refl _) ?_
            have hbc : 0 = b := (i_eq (by omega) (by omega)).mp h21
            exact ⟨by rw [hR, hbc, nund_eq]; rfl, rfl, rfl⟩
    | succ m ih =>
      intro c s hc hs hR
      by_cases hc0 : c = 0
      · exact ih c s (by omega) hs hR
      refine e_iload_n dX10_isUnder_4 rfl 3 rfl ?_
      refine e_above dX10_isUnder_5 kfX10_161 ?_
      refine e_xlen dX10_isUnder_8 (List.mem_singleton_self _) ?_
      refine e_icmp_ge (t := 38) dX10_isUnder_9 (by decide) (fun h9 => ?_) (fun h9 => ?_)
      · skip
        exact absurd ((i_le (a := 7) (by decide) (by omega)).mp h9) (by omega)
      · skip
        refine e_iload_n dX10_isUnder_12 rfl 2 rfl ?_
        refine e_callSi dX10_isUnder_13 cvX10_124 rfl (c10_isKind (nI c)) (Nat.le_of_ble_eq_true rfl) (Nat.le_refl _) (Nat.le_refl _) rfl (Nat.le_of_ble_eq_true rfl) (fun r13 s13 m13 q13 => ?_)
        obtain ⟨q13, e13, g13⟩ := q13
        rw [e13, g13]
        clear e13 g13 s13 m13
        refine e_if_eq (t := 38) dX10_isUnder_16 (by decide) (fun h16 => ?_) (fun h16 => ?_)
        · skip
          rw [q13, bI_eq0] at h16
          exact absurd ⟨i_nn (show c < 2 ^ 31 by omega), (i_lt (b := 7) (by omega) (by decide)).mpr (by omega)⟩ h16
        · skip
          refine e_iload_n dX10_isUnder_19 rfl 2 rfl ?_
          refine e_iload_n dX10_isUnder_20 rfl 1 rfl ?_
          refine e_icmp_ne (t := 26) dX10_isUnder_21 (by decide) (fun h21 => ?_) (fun h21 => ?_)
          · skip
            have hbc : c ≠ b := fun q => h21 (by rw [q])
            refine e_above dX10_isUnder_26 kfX10_161 ?_
            refine e_iload_n dX10_isUnder_29 rfl 2 rfl ?_
            refine e_xald dX10_isUnder_30 (List.mem_singleton_self _) (vp_in_nI (by omega) (by decide)) ?_
            rw [i_cl (show c < 2 ^ 31 by omega), ev_up_s c (by omega) hc0]
            refine e_istore_n [(0, .int (nI a)), (1, .int (nI b)), (2, .int (nI (nup1 c))), (3, .int (nI s))] dX10_isUnder_31 rfl (by decide) rfl ?_
            refine e_iinc (nI (s + 1)) [(0, .int (nI a)), (1, .int (nI b)), (2, .int (nI (nup1 c))), (3, .int (nI (s + 1)))] dX10_isUnder_32 3 rfl (nI_1 s) (by decide) rfl ?_
            refine e_goto (t := 4) dX10_isUnder_35 (by decide) ?_
            have hlt := nup1_lt c (by omega) hc0
            exact ih (nup1 c) (s + 1) (by omega) (by omega) (by rw [hR, nund_step c (by omega) b hb hbc hc0])
          · skip
            refine e_iconst (v := 1) dX10_isUnder_24 rfl ?_
            refine e_reti dX10_isUnder_25 ev_nw1 (Nat.le_refl _) (Nat.le_refl _) ?_
            have hbc : c = b := (i_eq (by omega) (by omega)).mp h21
            exact ⟨by rw [hR, hbc, nund_eq]; rfl, rfl, rfl⟩
  refine e_iload_n dX10_isUnder_0 rfl 0 rfl ?_
  refine e_istore_n [(0, .int (nI a)), (1, .int (nI b)), (2, .int (nI a))] dX10_isUnder_1 rfl (by decide) rfl ?_
  refine e_iconst (v := 0) dX10_isUnder_2 rfl ?_
  refine e_istore_n [(0, .int (nI a)), (1, .int (nI b)), (2, .int (nI a)), (3, .int (nI 0))] dX10_isUnder_3 rfl (by decide) rfl ?_
  exact loop 6 a 0 (by omega) (by omega) rfl

set_option maxRecDepth 100000 in
theorem c10_taken {S : ns_T} (hV : VS S) {x w : Int32} {σ : ex_S} {μ : ex_L}(hC : NC σ 33 S) : Ci 5 yX10_taken cX10_taken 3 (some .int) [.ref 0, .int x, .int w] TT σ μ (fun z' σ' μ' => z' = ntaken S x w ∧ σ' = σ ∧ μ' = μ) := by
  refine Cl_of (by decide +kernel) (Nat.le_of_ble_eq_true rfl) ?_
  show Ev RX10 cX10_taken 3 5 0 0 "taken" (some .int) ev_ext _ _ 0 0 0 [(0, .ref 0), (1, .int x), (2, .int w)] [] TT σ μ
  have hn := hV.1
  have h2n := two_n hV
  refine e_iload_n dX10_taken_0 rfl 2 rfl ?_
  refine e_callSi dX10_taken_1 cvX10_124 rfl (c10_isKind w) (Nat.le_of_ble_eq_true rfl) (Nat.le_refl _) (Nat.le_refl _) rfl (Nat.le_of_ble_eq_true rfl) (fun r1 s1 m1 q1 => ?_)
  obtain ⟨q1, e1, g1⟩ := q1
  rw [e1, g1]
  clear e1 g1 s1 m1
  refine e_if_ne (t := 10) dX10_taken_4 (by decide) (fun h4 => ?_) (fun h4 => ?_)
  · skip
    rw [q1, bI_eq0] at h4
    have hW := Classical.not_not.mp h4
    have hW : 0 ≤ w ∧ w ≤ 6 := ⟨hW.1, lt_7.mp hW.2⟩
    refine e_aload_n dX10_taken_10 rfl 0 rfl ?_
    refine e_getR dX10_taken_11 lkX10_46 tt_0 rfl ?_
    refine e_getR dX10_taken_14 lkX10_89 (store_0 store_32_) rfl ?_
    refine e_iload_n dX10_taken_17 rfl 1 rfl ?_
    refine e_callVi dX10_taken_18 cvX10_165 rfl (nodes_0 (store_n store_32_)) rfl (c3_hasN nodes_33_ hC x) (Nat.le_of_ble_eq_true rfl) (Nat.le_refl _) (Nat.le_refl _) rfl (Nat.le_of_ble_eq_true rfl) (fun r18 s18 m18 q18 => ?_)
    obtain ⟨q18, e18, g18⟩ := q18
    rw [e18, g18]
    clear e18 g18 s18 m18
    refine e_if_ne (t := 27) dX10_taken_21 (by decide) (fun h21 => ?_) (fun h21 => ?_)
    · skip
      rw [q18, bI_eq0] at h21
      have hP := Classical.not_not.mp h21
      obtain ⟨k, hk, rfl⟩ := i_ofl (x := x) (m := S 0 0) (by omega) hP.1 (show _ < nI (S 0 0) from hP.2)
      obtain ⟨c, hc, rfl⟩ := i_of (x := w) (m := 6) (by omega) hW.1 (show _ ≤ nI (6) from hW.2)
      have hW0 : 0 ≤ nI c ∧ nI c ≤ 6 := hW
      obtain ⟨u1, u2, u3, u4, u5, u6⟩ := hC.2.2.2.2.1 k hk
      have hk7 := (hV.2.2.2.2.2.2.1 k hk).1
      refine e_aload_n dX10_taken_27 rfl 0 rfl ?_
      refine e_getR dX10_taken_28 lkX10_46 tt_0 rfl ?_
      refine e_getR dX10_taken_31 lkX10_89 (store_0 store_32_) rfl ?_
      refine e_getR dX10_taken_34 lkX10_168 (nodes_0 (store_n store_32_)) rfl ?_
      refine e_iload_n dX10_taken_37 rfl 1 rfl ?_
      refine e_iald dX10_taken_38 (nodes_1 (store_n store_32_)) (vp_in_nI (by omega) (by decide)) ?_
      refine e_iload_n dX10_taken_39 rfl 2 rfl ?_
      rw [i_cl (by omega), u1]
      refine e_callSi dX10_taken_40 cvX10_364 rfl (c10_isUnder (a := S 1 k) (b := c) (by omega) (by omega)) (Nat.le_of_ble_eq_true rfl) (Nat.le_refl _) (Nat.le_refl _) rfl (Nat.le_of_ble_eq_true rfl) (fun r40 s40 m40 q40 => ?_)
      obtain ⟨q40, e40, g40⟩ := q40
      rw [e40, g40]
      clear e40 g40 s40 m40
      refine e_if_eq (t := 61) dX10_taken_43 (by decide) (fun h43 => ?_) (fun h43 => ?_)
      · skip
        rw [q40, bI_eq0] at h43
        refine e_bipush (v := (-12)) dX10_taken_61 rfl ?_
        refine e_reti dX10_taken_63 ev_nwi (Nat.le_refl _) (Nat.le_refl _) ?_
        have hr : ntaken S (nI k) (nI c) = -12 := by
          unfold ntaken
          rw [cif_t hW0, cif_t (nhas hV hk), i_cl (show k < 2 ^ 31 by omega), i_cl (show c < 2 ^ 31 by omega), cif_f h43]
        rw [hr]
        exact ⟨rfl, rfl, rfl⟩
      · skip
        rw [q40, bI_eq0] at h43
        have hu := Classical.not_not.mp h43
        refine e_aload_n dX10_taken_46 rfl 0 rfl ?_
        refine e_getR dX10_taken_47 lkX10_46 tt_0 rfl ?_
        refine e_getR dX10_taken_50 lkX10_89 (store_0 store_32_) rfl ?_
        refine e_getR dX10_taken_53 lkX10_168 (nodes_0 (store_n store_32_)) rfl ?_
        refine e_iload_n dX10_taken_56 rfl 1 rfl ?_
        refine e_iald dX10_taken_57 (nodes_1 (store_n store_32_)) (vp_in_nI (by omega) (by decide)) ?_
        rw [i_cl (by omega), u1]
        refine e_goto (t := 63) dX10_taken_58 (by decide) ?_
        refine e_reti dX10_taken_63 ev_nwi (Nat.le_refl _) (Nat.le_refl _) ?_
        have hr : ntaken S (nI k) (nI c) = nI (S 1 k) := by
          unfold ntaken
          rw [cif_t hW0, cif_t (nhas hV hk), i_cl (show k < 2 ^ 31 by omega), i_cl (show c < 2 ^ 31 by omega), cif_t hu]
        rw [hr]
        exact ⟨rfl, rfl, rfl⟩
    · skip
      rw [q18] at h21
      have h21 := bI_eq0.mp h21
      refine e_bipush (v := (-11)) dX10_taken_24 rfl ?_
      refine e_reti dX10_taken_26 ev_nwi (Nat.le_refl _) (Nat.le_refl _) ?_
      have hr : ntaken S x w = -11 := by
        unfold ntaken
        rw [cif_t hW, cif_f h21]
      rw [hr]
      exact ⟨rfl, rfl, rfl⟩
  · skip
    rw [q1] at h4
    have h4 := bI_eq0.mp h4
    refine e_bipush (v := (-2)) dX10_taken_7 rfl ?_
    refine e_reti dX10_taken_9 ev_nwi (Nat.le_refl _) (Nat.le_refl _) ?_
    have hr : ntaken S x w = -2 := by
      unfold ntaken
      rw [cif_f (fun z => h4 ⟨z.1, lt_7.mpr z.2⟩)]
    rw [hr]
    exact ⟨rfl, rfl, rfl⟩

set_option maxRecDepth 100000 in
theorem c11_taken {S : ns_T} (hV : VS S) {x w : Int32} {σ : ex_S} {μ : ex_L}(hR : NR σ S) : Ci 5 yX11_taken cX11_taken 4 (some .int) [.ref 127, .int x, .int w] TT σ μ (fun z' σ' μ' => z' = ntaken S x w ∧ σ' = σ ∧ μ' = μ) := by
  refine Cl_of (by decide +kernel) (Nat.le_of_ble_eq_true rfl) ?_
  show Ev RX11 cX11_taken 4 5 0 0 "taken" (some .int) ev_ext _ _ 0 0 0 [(0, .ref 127), (1, .int x), (2, .int w)] [] TT σ μ
  have hn := hV.1
  have h2n := two_n hV
  have loop : ∀ (k c : Nat), k < S 0 0 → c ≤ 6 → ∀ (m a : Nat), a ≤ m → a < 7 → nund (S 1 k) c = nund a c → Ev RX11 cX11_taken 4 5 0 0 "taken" (some .int) ev_ext TT.length (fun v9 T9 σ9 μ9 => T9 = TT ∧ ∃ z9, v9 = some (.int z9) ∧ (fun z' σ' μ' => z' = ntaken S (nI k) (nI c) ∧ σ' = σ ∧ μ' = μ) z9 σ9 μ9) 0 0 31 [(0, .ref 127), (1, .int (nI k)), (2, .int (nI c)), (3, .int (nI a))] [] TT σ μ := by
    intro k c hk hc
    obtain ⟨u1, u2, u3, u4, u5, u6, u7⟩ := hR.2.2.2.1 k hk
    have hk7 := (hV.2.2.2.2.2.2.1 k hk).1
    have hW0 : 0 ≤ nI c ∧ nI c ≤ 6 := ⟨i_nn (by omega), (i_le (b := 6) (by omega) (by decide)).mpr hc⟩
    intro m
    induction m with
    | zero =>
      intro a ha1 ha hR2
      obtain rfl : a = 0 := by omega
      refine e_iload_n dX11_taken_31 rfl 3 rfl ?_
      refine e_iload_n dX11_taken_32 rfl 2 rfl ?_
      refine e_icmp_eq (t := 48) dX11_taken_33 (by decide) (fun h33 => ?_) (fun h33 => ?_)
      · skip
        skip
        refine e_iload_n dX11_taken_48 rfl 3 rfl ?_
        refine e_iload_n dX11_taken_49 rfl 2 rfl ?_
        refine e_icmp_ne (t := 62) dX11_taken_50 (by decide) (fun h50 => ?_) (fun h50 => ?_)
        · skip
          exact absurd h33 h50
        · skip
          refine e_aload_n dX11_taken_53 rfl 0 rfl ?_
          refine e_getR dX11_taken_54 lkX11_21 tt_127 rfl ?_
          refine e_iload_n dX11_taken_57 rfl 1 rfl ?_
          
          refine e_iald dX11_taken_58 tt_131 (vp_in_nI (by omega) (by decide)) ?_
          rw [i_cl (show k < 2 ^ 31 by omega), u1]
          refine e_goto (t := 64) dX11_taken_59 (by decide) ?_
          refine e_reti dX11_taken_64 ev_nwi (Nat.le_refl _) (Nat.le_refl _) ?_
          have hr : ntaken S (nI k) (nI c) = nI (S 1 k) := by
            unfold ntaken
            rw [cif_t hW0, cif_t (nhas hV hk), i_cl (show k < 2 ^ 31 by omega), i_cl (show c < 2 ^ 31 by omega), cif_t (by rw [hR2, (i_eq (a := 0) (b := c) (by omega) (by omega)).mp h50, nund_eq])]
          rw [hr]
          exact ⟨rfl, rfl, rfl⟩
      · skip
        skip
        refine e_iload_n dX11_taken_36 rfl 3 rfl ?_
        refine e_if_le (t := 48) dX11_taken_37 (by decide) (fun h37 => ?_) (fun h37 => ?_)
        · skip
          refine e_iload_n dX11_taken_48 rfl 3 rfl ?_
          refine e_iload_n dX11_taken_49 rfl 2 rfl ?_
          refine e_icmp_ne (t := 62) dX11_taken_50 (by decide) (fun h50 => ?_) (fun h50 => ?_)
          · skip
            refine e_bipush (v := (-12)) dX11_taken_62 rfl ?_
            refine e_reti dX11_taken_64 ev_nwi (Nat.le_refl _) (Nat.le_refl _) ?_
            have hr : ntaken S (nI k) (nI c) = -12 := by
              unfold ntaken
              rw [cif_t hW0, cif_t (nhas hV hk), i_cl (show k < 2 ^ 31 by omega), i_cl (show c < 2 ^ 31 by omega), cif_f (by rw [hR2, nund_0 c (by omega) (fun q => h50 (by rw [q]))]; decide)]
            rw [hr]
            exact ⟨rfl, rfl, rfl⟩
          · skip
            exact absurd h50 h33
        · skip
          exact absurd (Int32.le_refl _) h37
    | succ m ih =>
      intro a ha1 ha hR2
      refine e_iload_n dX11_taken_31 rfl 3 rfl ?_
      refine e_iload_n dX11_taken_32 rfl 2 rfl ?_
      refine e_icmp_eq (t := 48) dX11_taken_33 (by decide) (fun h33 => ?_) (fun h33 => ?_)
      · skip
        skip
        refine e_iload_n dX11_taken_48 rfl 3 rfl ?_
        refine e_iload_n dX11_taken_49 rfl 2 rfl ?_
        refine e_icmp_ne (t := 62) dX11_taken_50 (by decide) (fun h50 => ?_) (fun h50 => ?_)
        · skip
          exact absurd h33 h50
        · skip
          refine e_aload_n dX11_taken_53 rfl 0 rfl ?_
          refine e_getR dX11_taken_54 lkX11_21 tt_127 rfl ?_
          refine e_iload_n dX11_taken_57 rfl 1 rfl ?_
          refine e_iald dX11_taken_58 tt_131 (vp_in_nI (by omega) (by decide)) ?_
          rw [i_cl (show k < 2 ^ 31 by omega), u1]
          refine e_goto (t := 64) dX11_taken_59 (by decide) ?_
          refine e_reti dX11_taken_64 ev_nwi (Nat.le_refl _) (Nat.le_refl _) ?_
          have hr : ntaken S (nI k) (nI c) = nI (S 1 k) := by
            unfold ntaken
            rw [cif_t hW0, cif_t (nhas hV hk), i_cl (show k < 2 ^ 31 by omega), i_cl (show c < 2 ^ 31 by omega), cif_t (by rw [hR2, (i_eq (a := a) (b := c) (by omega) (by omega)).mp h50, nund_eq])]
          rw [hr]
          exact ⟨rfl, rfl, rfl⟩
      · skip
        have hac : a ≠ c := fun q => h33 (by rw [q])
        refine e_iload_n dX11_taken_36 rfl 3 rfl ?_
        refine e_if_le (t := 48) dX11_taken_37 (by decide) (fun h37 => ?_) (fun h37 => ?_)
        · skip
          have ha0 : a = 0 := by
            have := (i_le (by omega) (by decide)).mp (show nI a ≤ nI 0 from h37)
            omega
          subst ha0
          refine e_iload_n dX11_taken_48 rfl 3 rfl ?_
          refine e_iload_n dX11_taken_49 rfl 2 rfl ?_
          refine e_icmp_ne (t := 62) dX11_taken_50 (by decide) (fun h50 => ?_) (fun h50 => ?_)
          · skip
            refine e_bipush (v := (-12)) dX11_taken_62 rfl ?_
            refine e_reti dX11_taken_64 ev_nwi (Nat.le_refl _) (Nat.le_refl _) ?_
            have hr : ntaken S (nI k) (nI c) = -12 := by
              unfold ntaken
              rw [cif_t hW0, cif_t (nhas hV hk), i_cl (show k < 2 ^ 31 by omega), i_cl (show c < 2 ^ 31 by omega), cif_f (by rw [hR2, nund_0 c (by omega) (fun q => h50 (by rw [q]))]; decide)]
            rw [hr]
            exact ⟨rfl, rfl, rfl⟩
          · skip
            exact absurd h50 h33
        · skip
          have ha0 : a ≠ 0 := fun q => h37 (by rw [q]; exact Int32.le_refl _)
          have hlt := nup1_lt a ha ha0
          refine e_iload_n dX11_taken_40 rfl 3 rfl ?_
          refine e_callSi dX11_taken_41 cvX11_293 rfl (c11_above (nI a)) (Nat.le_of_ble_eq_true rfl) (Nat.le_refl _) (Nat.le_refl _) rfl (Nat.le_of_ble_eq_true rfl) (fun r41 s41 m41 q41 => ?_)
          obtain ⟨q41, e41, g41⟩ := q41
          rw [e41, g41]
          clear e41 g41 s41 m41
          rw [q41, i_up1 a ha]
          refine e_istore_n [(0, .ref 127), (1, .int (nI k)), (2, .int (nI c)), (3, .int (nI (nup1 a)))] dX11_taken_44 rfl (by decide) rfl ?_
          refine e_goto (t := 31) dX11_taken_45 (by decide) ?_
          exact ih (nup1 a) (by omega) (by omega) (by rw [hR2, nund_step a ha c (by omega) hac ha0])
  refine e_iload_n dX11_taken_0 rfl 2 rfl ?_
  refine e_iconst (v := 0) dX11_taken_1 rfl ?_
  refine e_bipush (v := 6) dX11_taken_2 rfl ?_
  refine e_callSi dX11_taken_4 cvX11_99 rfl (c11_within w 0 6) (Nat.le_of_ble_eq_true rfl) (Nat.le_refl _) (Nat.le_refl _) rfl (Nat.le_of_ble_eq_true rfl) (fun r4 s4 m4 q4 => ?_)
  obtain ⟨q4, e4, g4⟩ := q4
  rw [e4, g4]
  clear e4 g4 s4 m4
  refine e_if_ne (t := 13) dX11_taken_7 (by decide) (fun h7 => ?_) (fun h7 => ?_)
  · skip
    rw [q4, bI_eq0] at h7
    have hW := Classical.not_not.mp h7
    refine e_aload_n dX11_taken_13 rfl 0 rfl ?_
    refine e_iload_n dX11_taken_14 rfl 1 rfl ?_
    refine e_callVi dX11_taken_15 cvX11_169 rfl tt_127 rfl (c11_isOneN hV hR x) (Nat.le_of_ble_eq_true rfl) (Nat.le_refl _) (Nat.le_refl _) rfl (Nat.le_of_ble_eq_true rfl) (fun r15 s15 m15 q15 => ?_)
    obtain ⟨q15, e15, g15⟩ := q15
    rw [e15, g15]
    clear e15 g15 s15 m15
    refine e_if_ne (t := 24) dX11_taken_18 (by decide) (fun h18 => ?_) (fun h18 => ?_)
    · skip
      rw [q15, bI_eq0] at h18
      have hP := Classical.not_not.mp h18
      obtain ⟨k, hk, rfl⟩ := i_ofl (x := x) (m := S 0 0) (by omega) hP.1 (show _ < nI (S 0 0) from hP.2)
      obtain ⟨c, hc, rfl⟩ := i_of (x := w) (m := 6) (by omega) hW.1 (show _ ≤ nI (6) from hW.2)
      refine e_aload_n dX11_taken_24 rfl 0 rfl ?_
      refine e_getR dX11_taken_25 lkX11_21 tt_127 rfl ?_
      refine e_iload_n dX11_taken_28 rfl 1 rfl ?_
      refine e_iald dX11_taken_29 tt_131 (vp_in_nI (by omega) (by decide)) ?_
      rw [i_cl (by omega), (hR.2.2.2.1 k hk).1]
      refine e_istore_n [(0, .ref 127), (1, .int (nI k)), (2, .int (nI c)), (3, .int (nI (S 1 k)))] dX11_taken_30 rfl (by decide) rfl ?_
      exact loop k c hk (by omega) 6 (S 1 k) (by have := (hV.2.2.2.2.2.2.1 k hk).1; omega) (hV.2.2.2.2.2.2.1 k hk).1 rfl
    · skip
      rw [q15] at h18
      have h18 := bI_eq0.mp h18
      refine e_bipush (v := (-11)) dX11_taken_21 rfl ?_
      refine e_reti dX11_taken_23 ev_nwi (Nat.le_refl _) (Nat.le_refl _) ?_
      have hr : ntaken S x w = -11 := by
        unfold ntaken
        rw [cif_t hW, cif_f h18]
      rw [hr]
      exact ⟨rfl, rfl, rfl⟩
  · skip
    rw [q4] at h7
    have h7 := bI_eq0.mp h7
    refine e_bipush (v := (-2)) dX11_taken_10 rfl ?_
    refine e_reti dX11_taken_12 ev_nwi (Nat.le_refl _) (Nat.le_refl _) ?_
    have hr : ntaken S x w = -2 := by
      unfold ntaken
      rw [cif_f h7]
    rw [hr]
    exact ⟨rfl, rfl, rfl⟩

/-- THE TEXT, so far -/
def TXC (σ : ex_S) (z : Nat) (X : Nat → Nat) : Prop := σ 3 1 = nI z ∧ ∀ i, i < z → σ 4 i = nI (X i)
def TXR (σ : ex_S) (z : Nat) (X : Nat → Nat) : Prop := σ 127 17 = nI z ∧ ∀ i, i < z → σ 140 i = nI (X i)
def ncount (S : ns_T) (z : Nat) (w : Int32) : Int32 := if w = 0 then nI (S 0 0) else if w = 1 then nI (S 0 1) else if w = 2 then nI (S 10 0) else if w = 3 then nI (S 13 0) else if w = 4 then nI (S 16 0) else if w = 5 then nI z else -2

set_option maxRecDepth 100000 in
theorem c10_count {S : ns_T} {z : Nat} {X : Nat → Nat} {w : Int32} {σ : ex_S} {μ : ex_L}(hC : NC σ 33 S) (h1 : PG σ 52 S 10) (h2 : PG σ 55 S 13) (h3 : PG σ 58 S 16) (hT : TXC σ z X) : Ci 3 yX10_count cX10_count 2 (some .int) [.ref 0, .int w] TT σ μ (fun z' σ' μ' => z' = ncount S z w ∧ σ' = σ ∧ μ' = μ) := by
  refine Cl_of (by decide +kernel) (Nat.le_of_ble_eq_true rfl) ?_
  show Ev RX10 cX10_count 2 3 0 0 "count" (some .int) ev_ext _ _ 0 0 0 [(0, .ref 0), (1, .int w)] [] TT σ μ
  refine e_iload_n dX10_count_0 rfl 1 rfl ?_
  by_cases k1_0 : w = 0
  · rw [k1_0]
    refine e_tswIn (t := 40) dX10_count_1 (by decide) (by decide) rfl (by decide) ?_
    refine e_aload_n dX10_count_40 rfl 0 rfl ?_
    refine e_getR dX10_count_41 lkX10_46 tt_0 rfl ?_
    refine e_getR dX10_count_44 lkX10_89 (store_0 store_32_) rfl ?_
    refine e_getI dX10_count_47 lkX10_92 (nodes_0 (store_n store_32_)) rfl ?_
    refine e_reti dX10_count_50 ev_nwi (Nat.le_refl _) (Nat.le_refl _) ?_
    refine ⟨?_, rfl, rfl⟩
    unfold ncount
    rw [if_pos rfl]
    exact hC.1
  by_cases k1_1 : w = 1
  · rw [k1_1]
    refine e_tswIn (t := 51) dX10_count_1 (by decide) (by decide) rfl (by decide) ?_
    refine e_aload_n dX10_count_51 rfl 0 rfl ?_
    refine e_getR dX10_count_52 lkX10_46 tt_0 rfl ?_
    refine e_getR dX10_count_55 lkX10_89 (store_0 store_32_) rfl ?_
    refine e_getI dX10_count_58 lkX10_130 (nodes_0 (store_n store_32_)) rfl ?_
    refine e_reti dX10_count_61 ev_nwi (Nat.le_refl _) (Nat.le_refl _) ?_
    refine ⟨?_, rfl, rfl⟩
    unfold ncount
    rw [if_neg (by decide), if_pos rfl]
    exact hC.2.1
  by_cases k1_2 : w = 2
  · rw [k1_2]
    refine e_tswIn (t := 62) dX10_count_1 (by decide) (by decide) rfl (by decide) ?_
    refine e_aload_n dX10_count_62 rfl 0 rfl ?_
    refine e_getR dX10_count_63 lkX10_46 tt_0 rfl ?_
    refine e_getR dX10_count_66 lkX10_272 (store_0 store_32_) rfl ?_
    refine e_getI dX10_count_69 lkX10_280 (pairs_0 (store_p1 store_32_)) rfl ?_
    refine e_reti dX10_count_72 ev_nwi (Nat.le_refl _) (Nat.le_refl _) ?_
    refine ⟨?_, rfl, rfl⟩
    unfold ncount
    rw [if_neg (by decide), if_neg (by decide), if_pos rfl]
    exact h1.1
  by_cases k1_3 : w = 3
  · rw [k1_3]
    refine e_tswIn (t := 73) dX10_count_1 (by decide) (by decide) rfl (by decide) ?_
    refine e_aload_n dX10_count_73 rfl 0 rfl ?_
    refine e_getR dX10_count_74 lkX10_46 tt_0 rfl ?_
    refine e_getR dX10_count_77 lkX10_329 (store_0 store_32_) rfl ?_
    refine e_getI dX10_count_80 lkX10_280 (pairs_0 (store_p2 store_32_)) rfl ?_
    refine e_reti dX10_count_83 ev_nwi (Nat.le_refl _) (Nat.le_refl _) ?_
    refine ⟨?_, rfl, rfl⟩
    unfold ncount
    rw [if_neg (by decide), if_neg (by decide), if_neg (by decide), if_pos rfl]
    exact h2.1
  by_cases k1_4 : w = 4
  · rw [k1_4]
    refine e_tswIn (t := 84) dX10_count_1 (by decide) (by decide) rfl (by decide) ?_
    refine e_aload_n dX10_count_84 rfl 0 rfl ?_
    refine e_getR dX10_count_85 lkX10_46 tt_0 rfl ?_
    refine e_getR dX10_count_88 lkX10_344 (store_0 store_32_) rfl ?_
    refine e_getI dX10_count_91 lkX10_280 (pairs_0 (store_p3 store_32_)) rfl ?_
    refine e_reti dX10_count_94 ev_nwi (Nat.le_refl _) (Nat.le_refl _) ?_
    refine ⟨?_, rfl, rfl⟩
    unfold ncount
    rw [if_neg (by decide), if_neg (by decide), if_neg (by decide), if_neg (by decide), if_pos rfl]
    exact h3.1
  by_cases k1_5 : w = 5
  · rw [k1_5]
    refine e_tswIn (t := 95) dX10_count_1 (by decide) (by decide) rfl (by decide) ?_
    refine e_aload_n dX10_count_95 rfl 0 rfl ?_
    refine e_getR dX10_count_96 lkX10_21 tt_0 rfl ?_
    refine e_getI dX10_count_99 lkX10_143 tt_3 rfl ?_
    refine e_reti dX10_count_102 ev_nwi (Nat.le_refl _) (Nat.le_refl _) ?_
    refine ⟨?_, rfl, rfl⟩
    unfold ncount
    rw [if_neg (by decide), if_neg (by decide), if_neg (by decide), if_neg (by decide), if_neg (by decide), if_pos rfl]
    exact hT.1
  refine e_tswOut (t := 103) dX10_count_1 (by
      have a0 := i32_ne k1_0
      have b0 : (0 : Int32).toInt = 0 := by decide
      have a1 := i32_ne k1_1
      have b1 : (1 : Int32).toInt = 1 := by decide
      have a2 := i32_ne k1_2
      have b2 : (2 : Int32).toInt = 2 := by decide
      have a3 := i32_ne k1_3
      have b3 : (3 : Int32).toInt = 3 := by decide
      have a4 := i32_ne k1_4
      have b4 : (4 : Int32).toInt = 4 := by decide
      have a5 := i32_ne k1_5
      have b5 : (5 : Int32).toInt = 5 := by decide
      omega) (by decide) ?_
  refine e_bipush (v := (-2)) dX10_count_103 rfl ?_
  refine e_reti dX10_count_105 ev_nwi (Nat.le_refl _) (Nat.le_refl _) ?_
  refine ⟨?_, rfl, rfl⟩
  unfold ncount
  rw [if_neg k1_0, if_neg k1_1, if_neg k1_2, if_neg k1_3, if_neg k1_4, if_neg k1_5]

set_option maxRecDepth 100000 in
theorem c11_count {S : ns_T} {z : Nat} {X : Nat → Nat} {w : Int32} {σ : ex_S} {μ : ex_L}(hR : NR σ S) (h1 : PH σ 22 142 S 10) (h2 : PH σ 25 144 S 13) (h3 : PH σ 28 146 S 16) (hT : TXR σ z X) : Ci 3 yX11_count cX11_count 2 (some .int) [.ref 127, .int w] TT σ μ (fun z' σ' μ' => z' = ncount S z w ∧ σ' = σ ∧ μ' = μ) := by
  refine Cl_of (by decide +kernel) (Nat.le_of_ble_eq_true rfl) ?_
  show Ev RX11 cX11_count 2 3 0 0 "count" (some .int) ev_ext _ _ 0 0 0 [(0, .ref 127), (1, .int w)] [] TT σ μ
  refine e_iload_n dX11_count_0 rfl 1 rfl ?_
  by_cases k1_0 : w = 0
  · rw [k1_0]
    refine e_tswIn (t := 40) dX11_count_1 (by decide) (by decide) rfl (by decide) ?_
    refine e_aload_n dX11_count_40 rfl 0 rfl ?_
    refine e_getI dX11_count_41 lkX11_95 tt_127 rfl ?_
    refine e_reti dX11_count_44 ev_nwi (Nat.le_refl _) (Nat.le_refl _) ?_
    refine ⟨?_, rfl, rfl⟩
    unfold ncount
    rw [if_pos rfl]
    exact hR.1
  by_cases k1_1 : w = 1
  · rw [k1_1]
    refine e_tswIn (t := 45) dX11_count_1 (by decide) (by decide) rfl (by decide) ?_
    refine e_aload_n dX11_count_45 rfl 0 rfl ?_
    refine e_getI dX11_count_46 lkX11_134 tt_127 rfl ?_
    refine e_reti dX11_count_49 ev_nwi (Nat.le_refl _) (Nat.le_refl _) ?_
    refine ⟨?_, rfl, rfl⟩
    unfold ncount
    rw [if_neg (by decide), if_pos rfl]
    exact hR.2.1
  by_cases k1_2 : w = 2
  · rw [k1_2]
    refine e_tswIn (t := 50) dX11_count_1 (by decide) (by decide) rfl (by decide) ?_
    refine e_aload_n dX11_count_50 rfl 0 rfl ?_
    refine e_getI dX11_count_51 lkX11_245 tt_127 rfl ?_
    refine e_reti dX11_count_54 ev_nwi (Nat.le_refl _) (Nat.le_refl _) ?_
    refine ⟨?_, rfl, rfl⟩
    unfold ncount
    rw [if_neg (by decide), if_neg (by decide), if_pos rfl]
    exact h1.1
  by_cases k1_3 : w = 3
  · rw [k1_3]
    refine e_tswIn (t := 55) dX11_count_1 (by decide) (by decide) rfl (by decide) ?_
    refine e_aload_n dX11_count_55 rfl 0 rfl ?_
    refine e_getI dX11_count_56 lkX11_276 tt_127 rfl ?_
    refine e_reti dX11_count_59 ev_nwi (Nat.le_refl _) (Nat.le_refl _) ?_
    refine ⟨?_, rfl, rfl⟩
    unfold ncount
    rw [if_neg (by decide), if_neg (by decide), if_neg (by decide), if_pos rfl]
    exact h2.1
  by_cases k1_4 : w = 4
  · rw [k1_4]
    refine e_tswIn (t := 60) dX11_count_1 (by decide) (by decide) rfl (by decide) ?_
    refine e_aload_n dX11_count_60 rfl 0 rfl ?_
    refine e_getI dX11_count_61 lkX11_286 tt_127 rfl ?_
    refine e_reti dX11_count_64 ev_nwi (Nat.le_refl _) (Nat.le_refl _) ?_
    refine ⟨?_, rfl, rfl⟩
    unfold ncount
    rw [if_neg (by decide), if_neg (by decide), if_neg (by decide), if_neg (by decide), if_pos rfl]
    exact h3.1
  by_cases k1_5 : w = 5
  · rw [k1_5]
    refine e_tswIn (t := 65) dX11_count_1 (by decide) (by decide) rfl (by decide) ?_
    refine e_aload_n dX11_count_65 rfl 0 rfl ?_
    refine e_getI dX11_count_66 lkX11_140 tt_127 rfl ?_
    refine e_reti dX11_count_69 ev_nwi (Nat.le_refl _) (Nat.le_refl _) ?_
    refine ⟨?_, rfl, rfl⟩
    unfold ncount
    rw [if_neg (by decide), if_neg (by decide), if_neg (by decide), if_neg (by decide), if_neg (by decide), if_pos rfl]
    exact hT.1
  refine e_tswOut (t := 70) dX11_count_1 (by
      have a0 := i32_ne k1_0
      have b0 : (0 : Int32).toInt = 0 := by decide
      have a1 := i32_ne k1_1
      have b1 : (1 : Int32).toInt = 1 := by decide
      have a2 := i32_ne k1_2
      have b2 : (2 : Int32).toInt = 2 := by decide
      have a3 := i32_ne k1_3
      have b3 : (3 : Int32).toInt = 3 := by decide
      have a4 := i32_ne k1_4
      have b4 : (4 : Int32).toInt = 4 := by decide
      have a5 := i32_ne k1_5
      have b5 : (5 : Int32).toInt = 5 := by decide
      omega) (by decide) ?_
  refine e_bipush (v := (-2)) dX11_count_70 rfl ?_
  refine e_reti dX11_count_72 ev_nwi (Nat.le_refl _) (Nat.le_refl _) ?_
  refine ⟨?_, rfl, rfl⟩
  unfold ncount
  rw [if_neg k1_0, if_neg k1_1, if_neg k1_2, if_neg k1_3, if_neg k1_4, if_neg k1_5]

def nshow (p : Nat) (S : ns_T) (j : Nat) : Int32 := if (S 0 3).testBit j = true then -1 else nI (nsym p S j)
theorem ns_m1 {p : Nat} (hp : gP p) {S : ns_T} (hV : VS S) {j v : Nat} (hv : v < 16) : nshow p S j = nI v ↔ ¬ (S 0 3).testBit j = true ∧ nsym p S j = v := by
  unfold nshow
  by_cases h : (S 0 3).testBit j = true
  · rw [if_pos h]
    exact ⟨fun q => absurd q.symm (ni_m1 (by omega)), fun q => absurd h q.1⟩
  · rw [if_neg h]
    have := nsym_lt hp hV j
    rw [i_eq (by omega) (by omega)]
    exact ⟨fun q => ⟨h, q⟩, fun q => q.2⟩
def IsLook (p : Nat) (S : ns_T) (i : Nat) : Prop := i < S 16 0 ∧ nshow p S (S 17 i) ≠ nI (S 18 i) ∧ ∀ k, k < i → nshow p S (S 17 k) = nI (S 18 k)
noncomputable def nlook (p : Nat) (S : ns_T) : Option Nat := @dite _ (∃ i, IsLook p S i) (Classical.propDecidable _) (fun h => some h.choose) (fun _ => none)
theorem look_uniq {p : Nat} {S : ns_T} {k k' : Nat} (h : IsLook p S k) (h' : IsLook p S k') : k = k' := by
  rcases Nat.lt_trichotomy k k' with q | q | q
  · exact absurd (h'.2.2 k q) h.2.1
  · exact q
  · exact absurd (h.2.2 k' q) h'.2.1
theorem nlook_some {p : Nat} {S : ns_T} {k : Nat} (h : IsLook p S k) : nlook p S = some k := by
  have he : ∃ k, IsLook p S k := ⟨k, h⟩
  unfold nlook
  rw [dif_pos he]
  exact congrArg some (look_uniq he.choose_spec h)
theorem nlook_none {p : Nat} {S : ns_T} (h : ∀ k, k < S 16 0 → nshow p S (S 17 k) = nI (S 18 k)) : nlook p S = none := by
  unfold nlook
  rw [dif_neg]
  rintro ⟨k, h1, h2, -⟩
  exact h2 (h k h1)

set_option maxRecDepth 100000 in
theorem c10_shown {p : Nat} (hp : gP p) {S : ns_T} (hV : VS S) {j : Nat} (hj : j < S 0 0) {σ : ex_S} {μ : ex_L}(hF : FC σ p) (hC : NC σ 33 S) : Ci 5 yX10_shown cX10_shown 3 (some .int) [.ref 0, .int (nI j)] TT σ μ (fun z' σ' μ' => z' = nshow p S j ∧ σ' = σ ∧ μ' = μ) := by
  refine Cl_of (by decide +kernel) (Nat.le_of_ble_eq_true rfl) ?_
  show Ev RX10 cX10_shown 3 5 0 0 "shown" (some .int) ev_ext _ _ 0 0 0 [(0, .ref 0), (1, .int (nI j))] [] TT σ μ
  have hn := hV.1
  have h2n := two_n hV
  refine e_aload_n dX10_shown_0 rfl 0 rfl ?_
  refine e_getR dX10_shown_1 lkX10_46 tt_0 rfl ?_
  refine e_getR dX10_shown_4 lkX10_89 (store_0 store_32_) rfl ?_
  refine e_iload_n dX10_shown_7 rfl 1 rfl ?_
  refine e_callVi dX10_shown_8 cvX10_165 rfl (nodes_0 (store_n store_32_)) rfl (c3_hasN nodes_33_ hC (nI j)) (Nat.le_of_ble_eq_true rfl) (Nat.le_refl _) (Nat.le_refl _) rfl (Nat.le_of_ble_eq_true rfl) (fun r8 s8 m8 q8 => ?_)
  obtain ⟨q8, e8, g8⟩ := q8
  rw [e8, g8]
  clear e8 g8 s8 m8
  refine e_if_eq (t := 32) dX10_shown_11 (by decide) (fun h11 => ?_) (fun h11 => ?_)
  · skip
    rw [q8, bI_eq0] at h11
    exact absurd (nhas hV hj) h11
  · skip
    refine e_aload_n dX10_shown_14 rfl 0 rfl ?_
    refine e_getR dX10_shown_15 lkX10_46 tt_0 rfl ?_
    refine e_getR dX10_shown_18 lkX10_89 (store_0 store_32_) rfl ?_
    refine e_iload_n dX10_shown_21 rfl 1 rfl ?_
    refine e_callVi dX10_shown_22 cvX10_187 rfl (nodes_0 (store_n store_32_)) rfl (c3_isMissingN nodes_33_ hV hC hj) (Nat.le_of_ble_eq_true rfl) (Nat.le_refl _) (Nat.le_refl _) rfl (Nat.le_of_ble_eq_true rfl) (fun r22 s22 m22 q22 => ?_)
    obtain ⟨q22, e22, g22⟩ := q22
    rw [e22, g22]
    clear e22 g22 s22 m22
    refine e_if_ne (t := 32) dX10_shown_25 (by decide) (fun h25 => ?_) (fun h25 => ?_)
    · skip
      rw [q22, bI_eq0] at h25
      have hm := Classical.not_not.mp h25
      refine e_iconst (v := 0) dX10_shown_32 rfl ?_
      refine e_istore_n [(0, .ref 0), (1, .int (nI j)), (2, .int 0)] dX10_shown_33 rfl (by decide) rfl ?_
      refine e_iload_n dX10_shown_34 rfl 2 rfl ?_
      refine e_if_eq (t := 56) dX10_shown_35 (by decide) (fun h35 => ?_) (fun h35 => ?_)
      · skip
        refine e_iconst (v := (-1)) dX10_shown_56 rfl ?_
        refine e_reti dX10_shown_57 ev_nwi (Nat.le_refl _) (Nat.le_refl _) ?_
        exact ⟨by unfold nshow; rw [if_pos hm], rfl, rfl⟩
      · skip
        exact absurd rfl h35
    · skip
      rw [q22] at h25
      have h25 := bI_eq0.mp h25
      refine e_iconst (v := 1) dX10_shown_28 rfl ?_
      refine e_goto (t := 33) dX10_shown_29 (by decide) ?_
      refine e_istore_n [(0, .ref 0), (1, .int (nI j)), (2, .int 1)] dX10_shown_33 rfl (by decide) rfl ?_
      refine e_iload_n dX10_shown_34 rfl 2 rfl ?_
      refine e_if_eq (t := 56) dX10_shown_35 (by decide) (fun h35 => ?_) (fun h35 => ?_)
      · skip
        exact absurd h35 (by decide)
      · skip
        refine e_aload_n dX10_shown_38 rfl 0 rfl ?_
        refine e_getR dX10_shown_39 lkX10_46 tt_0 rfl ?_
        refine e_getR dX10_shown_42 lkX10_89 (store_0 store_32_) rfl ?_
        refine e_aload_n dX10_shown_45 rfl 0 rfl ?_
        refine e_getR dX10_shown_46 lkX10_12 tt_0 rfl ?_
        refine e_iload_n dX10_shown_49 rfl 1 rfl ?_
        refine e_callVi dX10_shown_50 cvX10_190 rfl (nodes_0 (store_n store_32_)) rfl (c3_symbolOf nodes_33_ hp hV hF hC hj) (Nat.le_of_ble_eq_true rfl) (Nat.le_refl _) (Nat.le_refl _) rfl (Nat.le_of_ble_eq_true rfl) (fun r50 s50 m50 q50 => ?_)
        obtain ⟨q50, e50, g50⟩ := q50
        rw [e50, g50]
        clear e50 g50 s50 m50
        refine e_goto (t := 57) dX10_shown_53 (by decide) ?_
        refine e_reti dX10_shown_57 ev_nwi (Nat.le_refl _) (Nat.le_refl _) ?_
        exact ⟨by unfold nshow; rw [if_neg h25]; exact q50, rfl, rfl⟩

set_option maxRecDepth 100000 in
theorem c10_looked {p : Nat} (hp : gP p) {S : ns_T} (hV : VS S) (hU : PSV S) {σ : ex_S} {μ : ex_L}(hF : FC σ p) (hC : NC σ 33 S) (hG : PG σ 58 S 16) : Ci 6 yX10_looked cX10_looked 2 (some .int) [.ref 0] TT σ μ (fun z' σ' μ' => z' = hI (nlook p S) ∧ σ' = σ ∧ μ' = μ) := by
  refine Cl_of (by decide +kernel) (Nat.le_of_ble_eq_true rfl) ?_
  show Ev RX10 cX10_looked 2 6 0 0 "looked" (some .int) ev_ext _ _ 0 0 0 [(0, .ref 0)] [] TT σ μ
  have hn := hV.1
  have h2n := two_n hV
  have h8 := hU.2.2.1
  have loop : ∀ (m i : Nat), i + m = S 16 0 → (∀ k, k < i → nshow p S (S 17 k) = nI (S 18 k)) → Ev RX10 cX10_looked 2 6 0 0 "looked" (some .int) ev_ext TT.length (fun v9 T9 σ9 μ9 => T9 = TT ∧ ∃ z9, v9 = some (.int z9) ∧ (fun z' σ' μ' => z' = hI (nlook p S) ∧ σ' = σ ∧ μ' = μ) z9 σ9 μ9) 0 0 2 [(0, .ref 0), (1, .int (nI i))] [] TT σ μ := by
    intro m
    induction m with
    | zero =>
      intro i hi hz
      obtain rfl : i = S 16 0 := by omega
      refine e_iload_n dX10_looked_2 rfl 1 rfl ?_
      refine e_aload_n dX10_looked_3 rfl 0 rfl ?_
      refine e_getR dX10_looked_4 lkX10_46 tt_0 rfl ?_
      refine e_getR dX10_looked_7 lkX10_344 (store_0 store_32_) rfl ?_
      refine e_getI dX10_looked_10 lkX10_280 (pairs_0 (store_p3 store_32_)) rfl ?_
      rw [hG.1]
      refine e_icmp_ge (t := 55) dX10_looked_13 (by decide) (fun h13 => ?_) (fun h13 => ?_)
      · skip
        refine e_bipush (v := (-5)) dX10_looked_55 rfl ?_
        refine e_reti dX10_looked_57 ev_nwi (Nat.le_refl _) (Nat.le_refl _) ?_
        exact ⟨by rw [nlook_none hz]; rfl, rfl, rfl⟩
      · skip
        exact absurd (show nI (S 16 0) ≤ nI (S 16 0) from (i_le (by omega) (by omega)).mpr (by omega)) h13
    | succ m ih =>
      intro i hi hz
      obtain ⟨g1, g2⟩ : _ = nI (S 17 i) ∧ _ = nI (S 18 i) := hG.2 i (by omega)
      obtain ⟨v1, v2⟩ := hU.2.2.2.2.2 i (by omega)
      refine e_iload_n dX10_looked_2 rfl 1 rfl ?_
      refine e_aload_n dX10_looked_3 rfl 0 rfl ?_
      refine e_getR dX10_looked_4 lkX10_46 tt_0 rfl ?_
      refine e_getR dX10_looked_7 lkX10_344 (store_0 store_32_) rfl ?_
      refine e_getI dX10_looked_10 lkX10_280 (pairs_0 (store_p3 store_32_)) rfl ?_
      rw [hG.1]
      refine e_icmp_ge (t := 55) dX10_looked_13 (by decide) (fun h13 => ?_) (fun h13 => ?_)
      · skip
        exact absurd ((i_le (by omega) (by omega)).mp (show nI (S 16 0) ≤ nI i from h13)) (by omega)
      · skip
        refine e_aload_n dX10_looked_16 rfl 0 rfl ?_
        refine e_aload_n dX10_looked_17 rfl 0 rfl ?_
        refine e_getR dX10_looked_18 lkX10_46 tt_0 rfl ?_
        refine e_getR dX10_looked_21 lkX10_344 (store_0 store_32_) rfl ?_
        refine e_getR dX10_looked_24 lkX10_299 (pairs_0 (store_p3 store_32_)) rfl ?_
        refine e_iload_n dX10_looked_27 rfl 1 rfl ?_
        refine e_iald dX10_looked_28 (pairs_1 (store_p3 store_32_)) (vp_in_nI (by omega) (by decide)) ?_
        rw [i_cl (by omega), g1]
        refine e_callVi dX10_looked_29 cvX10_347 rfl tt_0 rfl (c10_shown hp hV v1 hF hC) (Nat.le_of_ble_eq_true rfl) (Nat.le_refl _) (Nat.le_refl _) rfl (Nat.le_of_ble_eq_true rfl) (fun r29 s29 m29 q29 => ?_)
        obtain ⟨q29, e29, g29⟩ := q29
        rw [e29, g29]
        clear e29 g29 s29 m29
        refine e_aload_n dX10_looked_32 rfl 0 rfl ?_
        refine e_getR dX10_looked_33 lkX10_46 tt_0 rfl ?_
        refine e_getR dX10_looked_36 lkX10_344 (store_0 store_32_) rfl ?_
        refine e_getR dX10_looked_39 lkX10_305 (pairs_0 (store_p3 store_32_)) rfl ?_
        refine e_iload_n dX10_looked_42 rfl 1 rfl ?_
        refine e_iald dX10_looked_43 (pairs_2 (store_p3 store_32_)) (vp_in_nI (by omega) (by decide)) ?_
        rw [i_cl (by omega), g2]
        refine e_icmp_eq (t := 49) dX10_looked_44 (by decide) (fun h44 => ?_) (fun h44 => ?_)
        · skip
          have heq : nshow p S (S 17 i) = nI (S 18 i) := q29.symm.trans h44
          refine e_iinc (nI (i + 1)) [(0, .ref 0), (1, .int (nI (i + 1)))] dX10_looked_49 1 rfl (nI_1 i) (by decide) rfl ?_
          refine e_goto (t := 2) dX10_looked_52 (by decide) ?_
          exact ih (i + 1) (by omega) (fun k hk => by
            by_cases e : k = i
            · rw [e]; exact heq
            · exact hz k (by omega))
        · skip
          refine e_iload_n dX10_looked_47 rfl 1 rfl ?_
          refine e_reti dX10_looked_48 ev_nwi (Nat.le_refl _) (Nat.le_refl _) ?_
          exact ⟨by rw [nlook_some ⟨by omega, fun q => h44 (q29.trans q), hz⟩]; rfl, rfl, rfl⟩
  refine e_iconst (v := 0) dX10_looked_0 rfl ?_
  refine e_istore_n [(0, .ref 0), (1, .int 0)] dX10_looked_1 rfl (by decide) rfl ?_
  exact loop (S 16 0) 0 (by omega) (fun k hk => absurd hk (by omega))

set_option maxRecDepth 100000 in
theorem c11_looked {p : Nat} (hp : gP p) {S : ns_T} (hV : VS S) (hU : PSV S) {σ : ex_S} {μ : ex_L}(hF : FR σ p) (hR : NR σ S) (hG : PH σ 28 146 S 16) : Ci 6 yX11_looked cX11_looked 2 (some .int) [.ref 127] TT σ μ (fun z' σ' μ' => z' = hI (nlook p S) ∧ σ' = σ ∧ μ' = μ) := by
  refine Cl_of (by decide +kernel) (Nat.le_of_ble_eq_true rfl) ?_
  show Ev RX11 cX11_looked 2 6 0 0 "looked" (some .int) ev_ext _ _ 0 0 0 [(0, .ref 127)] [] TT σ μ
  have hn := hV.1
  have h2n := two_n hV
  have h8 := hU.2.2.1
  have loop : ∀ (m i : Nat), i + m = S 16 0 → (∀ k, k < i → nshow p S (S 17 k) = nI (S 18 k)) → Ev RX11 cX11_looked 2 6 0 0 "looked" (some .int) ev_ext TT.length (fun v9 T9 σ9 μ9 => T9 = TT ∧ ∃ z9, v9 = some (.int z9) ∧ (fun z' σ' μ' => z' = hI (nlook p S) ∧ σ' = σ ∧ μ' = μ) z9 σ9 μ9) 0 0 2 [(0, .ref 127), (1, .int (nI i))] [] TT σ μ := by
    intro m
    induction m with
    | zero =>
      intro i hi hz
      obtain rfl : i = S 16 0 := by omega
      refine e_iload_n dX11_looked_2 rfl 1 rfl ?_
      refine e_aload_n dX11_looked_3 rfl 0 rfl ?_
      refine e_getI dX11_looked_4 lkX11_286 tt_127 rfl ?_
      rw [hG.1]
      refine e_icmp_ge (t := 52) dX11_looked_7 (by decide) (fun h7 => ?_) (fun h7 => ?_)
      · skip
        refine e_bipush (v := (-5)) dX11_looked_52 rfl ?_
        refine e_reti dX11_looked_54 ev_nwi (Nat.le_refl _) (Nat.le_refl _) ?_
        exact ⟨by rw [nlook_none hz]; rfl, rfl, rfl⟩
      · skip
        exact absurd (show nI (S 16 0) ≤ nI (S 16 0) from (i_le (by omega) (by omega)).mpr (by omega)) h7
    | succ m ih =>
      intro i hi hz
      obtain ⟨g1, g2⟩ : _ = nI (S 17 i) ∧ _ = nI (S 18 i) := hG.2 i (by omega)
      obtain ⟨v1, v2⟩ := hU.2.2.2.2.2 i (by omega)
      have um := (hR.2.2.2.1 _ v1).2.2.2.2.1
      refine e_iload_n dX11_looked_2 rfl 1 rfl ?_
      refine e_aload_n dX11_looked_3 rfl 0 rfl ?_
      refine e_getI dX11_looked_4 lkX11_286 tt_127 rfl ?_
      rw [hG.1]
      refine e_icmp_ge (t := 52) dX11_looked_7 (by decide) (fun h7 => ?_) (fun h7 => ?_)
      · skip
        exact absurd ((i_le (by omega) (by omega)).mp (show nI (S 16 0) ≤ nI i from h7)) (by omega)
      · skip
        refine e_aload_n dX11_looked_10 rfl 0 rfl ?_
        refine e_getR dX11_looked_11 lkX11_33 tt_127 rfl ?_
        refine e_aload_n dX11_looked_14 rfl 0 rfl ?_
        refine e_getR dX11_looked_15 lkX11_66 tt_127 rfl ?_
        refine e_iload_n dX11_looked_18 rfl 1 rfl ?_
        refine e_iald dX11_looked_19 tt_146 (vp_in_nI (by omega) (by decide)) ?_
        rw [i_cl (by omega), g1]
        refine e_iald dX11_looked_20 tt_135 (vp_in_nI (by omega) (by decide)) ?_
        refine e_iconst (v := 1) dX11_looked_21 rfl ?_
        refine e_icmp_eq (t := 44) dX11_looked_22 (by decide) (fun h22 => ?_) (fun h22 => ?_)
        · skip
          have hm : (S 0 3).testBit (S 17 i) = true := by
            cases hb9 : (S 0 3).testBit (S 17 i) with
            | true => rfl
            | false => exact absurd (show nI 0 = nI 1 from by rw [i_cl (by omega), um, hb9] at h22; exact h22) (by decide)
          refine e_iload_n dX11_looked_44 rfl 1 rfl ?_
          refine e_reti dX11_looked_45 ev_nwi (Nat.le_refl _) (Nat.le_refl _) ?_
          exact ⟨by rw [nlook_some ⟨by omega, fun q => ((ns_m1 hp hV v2).mp q).1 hm, hz⟩]; rfl, rfl, rfl⟩
        · skip
          have hm : ¬ (S 0 3).testBit (S 17 i) = true := fun q => h22 (by rw [i_cl (by omega), um, q]; rfl)
          have hsl := nsym_lt hp hV (S 17 i)
          refine e_aload_n dX11_looked_25 rfl 0 rfl ?_
          refine e_aload_n dX11_looked_26 rfl 0 rfl ?_
          refine e_getR dX11_looked_27 lkX11_66 tt_127 rfl ?_
          refine e_iload_n dX11_looked_30 rfl 1 rfl ?_
          refine e_iald dX11_looked_31 tt_146 (vp_in_nI (by omega) (by decide)) ?_
          rw [i_cl (by omega), g1]
          refine e_callVi dX11_looked_32 cvX11_187 rfl tt_127 rfl (c11_symbol hp hV hF hR v1) (Nat.le_of_ble_eq_true rfl) (Nat.le_refl _) (Nat.le_refl _) rfl (Nat.le_of_ble_eq_true rfl) (fun r32 s32 m32 q32 => ?_)
          obtain ⟨q32, e32, g32⟩ := q32
          rw [e32, g32]
          clear e32 g32 s32 m32
          refine e_aload_n dX11_looked_35 rfl 0 rfl ?_
          refine e_getR dX11_looked_36 lkX11_69 tt_127 rfl ?_
          refine e_iload_n dX11_looked_39 rfl 1 rfl ?_
          refine e_iald dX11_looked_40 tt_147 (vp_in_nI (by omega) (by decide)) ?_
          rw [i_cl (by omega), g2, q32]
          refine e_icmp_eq (t := 46) dX11_looked_41 (by decide) (fun h41 => ?_) (fun h41 => ?_)
          · skip
            have heq : nshow p S (S 17 i) = nI (S 18 i) := (ns_m1 hp hV v2).mpr ⟨hm, (i_eq (by omega) (by omega)).mp h41⟩
            refine e_iinc (nI (i + 1)) [(0, .ref 127), (1, .int (nI (i + 1)))] dX11_looked_46 1 rfl (nI_1 i) (by decide) rfl ?_
            refine e_goto (t := 2) dX11_looked_49 (by decide) ?_
            exact ih (i + 1) (by omega) (fun k hk => by
              by_cases e : k = i
              · rw [e]; exact heq
              · exact hz k (by omega))
          · skip
            refine e_iload_n dX11_looked_44 rfl 1 rfl ?_
            refine e_reti dX11_looked_45 ev_nwi (Nat.le_refl _) (Nat.le_refl _) ?_
            exact ⟨by rw [nlook_some ⟨by omega, fun q => h41 (by rw [((ns_m1 hp hV v2).mp q).2]), hz⟩]; rfl, rfl, rfl⟩
  refine e_iconst (v := 0) dX11_looked_0 rfl ?_
  refine e_istore_n [(0, .ref 127), (1, .int 0)] dX11_looked_1 rfl (by decide) rfl ?_
  exact loop (S 16 0) 0 (by omega) (fun k hk => absurd hk (by omega))

theorem nar_c : ∀ k, k < 128 → vp_nar .char ((nI k).toUInt32 % 65536).toInt32 = nI k := by decide +kernel
noncomputable def nfeed (z : Nat) (X : Nat → Nat) (s : Int32) : Int32 × Nat × (Nat → Nat) := cif (0 ≤ s ∧ s ≤ 127) (cif (z < 100) (nI (z + 1), z + 1, fun i => if i = z then s.toNatClampNeg else X i) (-4, z, X)) (-2, z, X)
theorem TXC.add {σ : ex_S} {z : Nat} {X : Nat → Nat} (h : TXC σ z X) {u : Nat} : TXC (sup (sup σ 4 z (nI u)) 3 1 (nI (z + 1))) (z + 1) (fun i => if i = z then u else X i) := by
  refine ⟨sup_same, fun i hi => ?_⟩
  show _ = nI (if i = z then u else X i)
  rw [sup_obj (by decide)]
  by_cases e : i = z
  · rw [e, sup_same, if_pos rfl]
  · rw [sup_idx e, if_neg e]
    exact h.2 i (by omega)
theorem TXR.add {σ : ex_S} {z : Nat} {X : Nat → Nat} (h : TXR σ z X) {u : Nat} : TXR (sup (sup σ 127 17 (nI (z + 1))) 140 z (nI u)) (z + 1) (fun i => if i = z then u else X i) := by
  refine ⟨by rw [sup_obj (by decide), sup_same], fun i hi => ?_⟩
  show _ = nI (if i = z then u else X i)
  by_cases e : i = z
  · rw [e, sup_same, if_pos rfl]
  · rw [sup_idx e, if_neg e, sup_obj (by decide)]
    exact h.2 i (by omega)

set_option maxRecDepth 100000 in
theorem c1_add {z u : Nat} (hu : u < 128) {σ : ex_S} {μ : ex_L}(hz : σ 3 1 = nI z) (hz2 : z ≤ 100) : Ci 3 yX1_add cX1_add 2 (some .boolean) [.ref 3, .int (nI u)] TT σ μ (fun z' σ' μ' => z' = bI (z < 100) ∧ (z < 100 → σ' = sup (sup σ 4 z (nI u)) 3 1 (nI (z + 1))) ∧ (¬ z < 100 → σ' = σ) ∧ μ' = μ) := by
  refine Cl_of (by decide +kernel) (Nat.le_of_ble_eq_true rfl) ?_
  show Ev RX1 cX1_add 2 3 0 0 "add" (some .boolean) ev_ext _ _ 0 0 0 [(0, .ref 3), (1, .int (nI u))] [] TT σ μ
  refine e_aload_n dX1_add_0 rfl 0 rfl ?_
  refine e_getI dX1_add_1 lkX1_15 tt_3 rfl ?_
  refine e_aload_n dX1_add_4 rfl 0 rfl ?_
  refine e_getR dX1_add_5 lkX1_11 tt_3 rfl ?_
  refine e_alen dX1_add_8 tt_4 (Nat.le_of_ble_eq_true rfl) ?_
  rw [hz]
  refine e_icmp_lt (t := 14) dX1_add_9 (by decide) (fun h9 => ?_) (fun h9 => ?_)
  · skip
    have hz3 : z < 100 := (i_lt (b := 100) (by omega) (by decide)).mp h9
    refine e_aload_n dX1_add_14 rfl 0 rfl ?_
    refine e_getR dX1_add_15 lkX1_11 tt_3 rfl ?_
    refine e_aload_n dX1_add_18 rfl 0 rfl ?_
    refine e_getI dX1_add_19 lkX1_15 tt_3 rfl ?_
    rw [hz]
    refine e_iload_n dX1_add_22 rfl 1 rfl ?_
    refine e_i2c dX1_add_23 ?_
    refine e_cast dX1_add_24 tt_4 (vp_in_nI hz3 (by decide)) ?_
    rw [i_cl (by omega), nar_c u hu]
    refine e_aload_n dX1_add_25 rfl 0 rfl ?_
    refine e_dup dX1_add_26 rfl ?_
    refine e_getI dX1_add_27 lkX1_15 tt_3 rfl ?_
    rw [sup_obj (by decide), hz]
    refine e_iconst (v := 1) dX1_add_30 rfl ?_
    refine e_iadd dX1_add_31 ?_
    rw [show nI z + 1 = nI (z + 1) from nI_1 z]
    refine e_putI dX1_add_32 lkX1_15' tt_3 rfl rfl rfl ?_
    refine e_iconst (v := 1) dX1_add_35 rfl ?_
    refine e_reti dX1_add_36 ev_nw1 (Nat.le_refl _) (Nat.le_refl _) ?_
    exact ⟨(bI_t hz3).symm, fun _ => rfl, fun q => absurd hz3 q, rfl⟩
  · skip
    have hz3 : ¬ z < 100 := fun q => h9 ((i_lt (b := 100) (by omega) (by decide)).mpr q)
    refine e_iconst (v := 0) dX1_add_12 rfl ?_
    refine e_reti dX1_add_13 ev_nw0 (Nat.le_refl _) (Nat.le_refl _) ?_
    exact ⟨(bI_f hz3).symm, fun q => absurd q hz3, fun _ => rfl, rfl⟩

set_option maxRecDepth 100000 in
theorem c10_feed {z : Nat} {X : Nat → Nat} {x : Int32} {σ : ex_S} {μ : ex_L}(hT : TXC σ z X) (hz2 : z ≤ 100) : Ci 4 yX10_feed cX10_feed 2 (some .int) [.ref 0, .int x] TT σ μ (fun z' σ' μ' => z' = (nfeed z X x).1 ∧ TXC σ' (nfeed z X x).2.1 (nfeed z X x).2.2 ∧ (∀ i, i ≠ 3 → i ≠ 4 → σ' i = σ i) ∧ (∀ k, k ≠ 1 → σ' 3 k = σ 3 k) ∧ μ' = μ) := by
  refine Cl_of (by decide +kernel) (Nat.le_of_ble_eq_true rfl) ?_
  show Ev RX10 cX10_feed 2 4 0 0 "feed" (some .int) ev_ext _ _ 0 0 0 [(0, .ref 0), (1, .int x)] [] TT σ μ
  refine e_iload_n dX10_feed_0 rfl 1 rfl ?_
  refine e_if_lt (t := 10) dX10_feed_1 (by decide) (fun h1 => ?_) (fun h1 => ?_)
  · skip
    skip
    refine e_bipush (v := (-2)) dX10_feed_10 rfl ?_
    refine e_reti dX10_feed_12 ev_nwi (Nat.le_refl _) (Nat.le_refl _) ?_
    have hr : nfeed z X x = (-2, z, X) := by
      unfold nfeed
      rw [cif_f (fun z => nlt_0 h1 z.1)]
    rw [hr]
    exact ⟨rfl, hT, fun _ _ _ => rfl, fun _ _ => rfl, rfl⟩
  · skip
    refine e_iload_n dX10_feed_4 rfl 1 rfl ?_
    refine e_bipush (v := 127) dX10_feed_5 rfl ?_
    refine e_icmp_le (t := 13) dX10_feed_7 (by decide) (fun h7 => ?_) (fun h7 => ?_)
    · skip
      have hW : 0 ≤ x ∧ x ≤ 127 := ⟨fa_of_nlt h1, h7⟩
      obtain ⟨c, hc, rfl⟩ := i_of (x := x) (m := 127) (by omega) hW.1 (show _ ≤ nI (127) from hW.2)
      refine e_aload_n dX10_feed_13 rfl 0 rfl ?_
      refine e_getR dX10_feed_14 lkX10_21 tt_0 rfl ?_
      refine e_iload_n dX10_feed_17 rfl 1 rfl ?_
      refine e_callVi dX10_feed_18 cvX10_140 rfl tt_3 rfl (c1_add (z := z) (u := c) (by omega) hT.1 hz2) (Nat.le_of_ble_eq_true rfl) (Nat.le_refl _) (Nat.le_refl _) rfl (Nat.le_of_ble_eq_true rfl) (fun r18 s18 m18 q18 => ?_)
      obtain ⟨q18, a1, a2, a3⟩ := q18
      rw [a3]
      refine e_if_eq (t := 34) dX10_feed_21 (by decide) (fun h21 => ?_) (fun h21 => ?_)
      · skip
        rw [q18, bI_eq0] at h21
        refine e_bipush (v := (-4)) dX10_feed_34 rfl ?_
        refine e_reti dX10_feed_36 ev_nwi (Nat.le_refl _) (Nat.le_refl _) ?_
        have hr : nfeed z X (nI c) = (-4, z, X) := by
          unfold nfeed
          rw [cif_t hW, cif_f h21]
        rw [hr, a2 h21]
        exact ⟨rfl, hT, fun _ _ _ => rfl, fun _ _ => rfl, rfl⟩
      · skip
        rw [q18, bI_eq0] at h21
        have hlt := Classical.not_not.mp h21
        have a1 := a1 hlt
        subst a1
        refine e_aload_n dX10_feed_24 rfl 0 rfl ?_
        refine e_getR dX10_feed_25 lkX10_21 tt_0 rfl ?_
        refine e_getI dX10_feed_28 lkX10_143 tt_3 rfl ?_
        refine e_goto (t := 36) dX10_feed_31 (by decide) ?_
        refine e_reti dX10_feed_36 ev_nwi (Nat.le_refl _) (Nat.le_refl _) ?_
        have hr : nfeed z X (nI c) = (nI (z + 1), z + 1, fun i => if i = z then c else X i) := by
          unfold nfeed
          rw [cif_t hW, cif_t hlt, i_cl (show c < 2 ^ 31 by omega)]
        rw [hr, sup_same]
        exact ⟨rfl, hT.add, fun i h3 h4 => by rw [sup_obj h3, sup_obj h4], fun k hk => by rw [sup_idx hk, sup_obj (show (3 : Nat) ≠ 4 by decide)], rfl⟩
    · skip
      skip
      refine e_bipush (v := (-2)) dX10_feed_10 rfl ?_
      refine e_reti dX10_feed_12 ev_nwi (Nat.le_refl _) (Nat.le_refl _) ?_
      have hr : nfeed z X x = (-2, z, X) := by
        unfold nfeed
        rw [cif_f (fun z => h7 z.2)]
      rw [hr]
      exact ⟨rfl, hT, fun _ _ _ => rfl, fun _ _ => rfl, rfl⟩

set_option maxRecDepth 100000 in
theorem c11_feed {z : Nat} {X : Nat → Nat} {x : Int32} {σ : ex_S} {μ : ex_L}(hT : TXR σ z X) (hz2 : z ≤ 100) : Ci 3 yX11_feed cX11_feed 2 (some .int) [.ref 127, .int x] TT σ μ (fun z' σ' μ' => z' = (nfeed z X x).1 ∧ TXR σ' (nfeed z X x).2.1 (nfeed z X x).2.2 ∧ (∀ i, i ≠ 127 → i ≠ 140 → σ' i = σ i) ∧ (∀ k, k ≠ 17 → σ' 127 k = σ 127 k) ∧ μ' = μ) := by
  refine Cl_of (by decide +kernel) (Nat.le_of_ble_eq_true rfl) ?_
  show Ev RX11 cX11_feed 2 3 0 0 "feed" (some .int) ev_ext _ _ 0 0 0 [(0, .ref 127), (1, .int x)] [] TT σ μ
  refine e_iload_n dX11_feed_0 rfl 1 rfl ?_
  refine e_iconst (v := 0) dX11_feed_1 rfl ?_
  refine e_bipush (v := 127) dX11_feed_2 rfl ?_
  refine e_callSi dX11_feed_4 cvX11_99 rfl (c11_within x 0 127) (Nat.le_of_ble_eq_true rfl) (Nat.le_refl _) (Nat.le_refl _) rfl (Nat.le_of_ble_eq_true rfl) (fun r4 s4 m4 q4 => ?_)
  obtain ⟨q4, e4, g4⟩ := q4
  rw [e4, g4]
  clear e4 g4 s4 m4
  refine e_if_ne (t := 13) dX11_feed_7 (by decide) (fun h7 => ?_) (fun h7 => ?_)
  · skip
    rw [q4, bI_eq0] at h7
    have hW := Classical.not_not.mp h7
    obtain ⟨c, hc, rfl⟩ := i_of (x := x) (m := 127) (by omega) hW.1 (show _ ≤ nI (127) from hW.2)
    refine e_aload_n dX11_feed_13 rfl 0 rfl ?_
    refine e_getI dX11_feed_14 lkX11_140 tt_127 rfl ?_
    refine e_bipush (v := 100) dX11_feed_17 rfl ?_
    rw [hT.1]
    refine e_icmp_ne (t := 25) dX11_feed_19 (by decide) (fun h19 => ?_) (fun h19 => ?_)
    · skip
      have hlt : z < 100 := by
        have : ¬ z = 100 := fun q => h19 (by rw [q]; rfl)
        omega
      refine e_aload_n dX11_feed_25 rfl 0 rfl ?_
      refine e_getR dX11_feed_26 lkX11_48 tt_127 rfl ?_
      refine e_aload_n dX11_feed_29 rfl 0 rfl ?_
      refine e_dup dX11_feed_30 rfl ?_
      refine e_getI dX11_feed_31 lkX11_140 tt_127 rfl ?_
      rw [hT.1]
      refine e_dup_x1 dX11_feed_34 rfl rfl ?_
      refine e_iconst (v := 1) dX11_feed_35 rfl ?_
      refine e_iadd dX11_feed_36 ?_
      rw [show nI z + 1 = nI (z + 1) from nI_1 z]
      refine e_putI dX11_feed_37 lkX11_140' tt_127 rfl rfl rfl ?_
      refine e_iload_n dX11_feed_40 rfl 1 rfl ?_
      refine e_iast dX11_feed_41 tt_140 (vp_in_nI hlt (by decide)) ?_
      rw [i_cl (by omega)]
      refine e_aload_n dX11_feed_42 rfl 0 rfl ?_
      refine e_getI dX11_feed_43 lkX11_140 tt_127 rfl ?_
      refine e_reti dX11_feed_46 ev_nwi (Nat.le_refl _) (Nat.le_refl _) ?_
      have hr : nfeed z X (nI c) = (nI (z + 1), z + 1, fun i => if i = z then c else X i) := by
        unfold nfeed
        rw [cif_t hW, cif_t hlt, i_cl (show c < 2 ^ 31 by omega)]
      rw [hr]
      refine ⟨?_, hT.add, fun i h3 h4 => by rw [sup_obj h4, sup_obj h3], fun k hk => by rw [sup_obj (show (127 : Nat) ≠ 140 by decide), sup_idx hk], rfl⟩
      rw [sup_obj (show (127 : Nat) ≠ 140 by decide), sup_same]
    · skip
      have hf : z = 100 := (i_eq (by omega) (by decide)).mp h19
      refine e_bipush (v := (-4)) dX11_feed_22 rfl ?_
      refine e_reti dX11_feed_24 ev_nwi (Nat.le_refl _) (Nat.le_refl _) ?_
      have hr : nfeed z X (nI c) = (-4, z, X) := by
        unfold nfeed
        rw [cif_t hW, cif_f (by omega)]
      rw [hr]
      exact ⟨rfl, hT, fun _ _ _ => rfl, fun _ _ => rfl, rfl⟩
  · skip
    rw [q4] at h7
    have h7 := bI_eq0.mp h7
    refine e_bipush (v := (-2)) dX11_feed_10 rfl ?_
    refine e_reti dX11_feed_12 ev_nwi (Nat.le_refl _) (Nat.le_refl _) ?_
    have hr : nfeed z X x = (-2, z, X) := by
      unfold nfeed
      rw [cif_f h7]
    rw [hr]
    exact ⟨rfl, hT, fun _ _ _ => rfl, fun _ _ => rfl, rfl⟩
