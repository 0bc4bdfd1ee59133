theorem bI_iff {P Q : Prop} [Decidable P] [Decidable Q] (h : P ↔ Q) : bI P = bI Q := by
  unfold bI
  by_cases hq : Q
  · rw [if_pos (h.mpr hq), if_pos hq]
  · rw [if_neg (fun q => hq (h.mp q)), if_neg hq]
theorem le_pred {x : Int32} {n : Nat} (h : n ≤ 100000) : x ≤ nI n - 1 ↔ x < nI n := by
  rw [Int32.le_iff_toInt_le, Int32.lt_iff_toInt_lt, i_toInt (by omega)]
  cases n with
  | zero =>
    have : (nI 0 - 1).toInt = -1 := by decide
    omega
  | succ n =>
    rw [show nI (n + 1) - 1 = nI n from (i_sub (a := n + 1) (b := 1) (by omega)).trans (by rw [Nat.add_sub_cancel]), i_toInt (by omega)]
    omega
theorem c3_hasN {b : Nat} (hN : NodesAt b) {S : ns_T} {σ : ex_S} {μ : ex_L} (hC : NC σ b S) (x : Int32) : Ci 2 yX3_has cX3_has 2 (some .boolean) [.ref b, .int x] TT σ μ (fun z' σ' μ' => z' = bI (0 ≤ x ∧ x < nI (S 0 0)) ∧ σ' = σ ∧ μ' = μ) := by
  have h := c3_has hN (σ := σ) (μ := μ) x
  rw [hC.1] at h
  exact h
theorem c11_isOneN {S : ns_T} (hV : VS S) {σ : ex_S} {μ : ex_L} (hR : NR σ S) (x : Int32) : Ci 3 yX11_isOne cX11_isOne 2 (some .boolean) [.ref 127, .int x] TT σ μ (fun z' σ' μ' => z' = bI (0 ≤ x ∧ x < nI (S 0 0)) ∧ σ' = σ ∧ μ' = μ) := by
  have h := c11_isOne (σ := σ) (μ := μ) x
  rw [hR.1, bI_iff (Q := 0 ≤ x ∧ x < nI (S 0 0)) (by rw [le_pred (by have := hV.1; omega)])] at h
  exact h

set_option maxRecDepth 100000 in
theorem c3_costsOf5 {b : Nat} (hN : NodesAt b) {σ : ex_S} {μ : ex_L} : Ci 5 yX3_costsOf cX3_costsOf 4 (some .int) [.ref b, .int (-5)] TT σ μ (fun z' σ' μ' => z' = -5 ∧ σ' = σ ∧ μ' = μ) := by
  refine Cl_of (by decide +kernel) (Nat.le_of_ble_eq_true rfl) ?_
  show Ev RX3 cX3_costsOf 4 5 0 0 "costsOf" (some .int) ev_ext _ _ 0 0 0 [(0, .ref b), (1, .int (-5))] [] TT σ μ
  refine e_iload_n dX3_costsOf_0 rfl 1 rfl ?_
  refine e_bipush (v := (-5)) dX3_costsOf_1 rfl ?_
  refine e_icmp_ne (t := 9) dX3_costsOf_3 (by decide) (fun h3 => ?_) (fun h3 => ?_)
  · skip
    exact absurd rfl h3
  · skip
    refine e_bipush (v := (-5)) dX3_costsOf_6 rfl ?_
    refine e_reti dX3_costsOf_8 ev_nwi (Nat.le_refl _) (Nat.le_refl _) ?_
    exact ⟨rfl, rfl, rfl⟩

theorem c3_costsOfH {b : Nat} (hN : NodesAt b) {S : ns_T} (hV : VS S) {o : Option Nat} (ho : ∀ t, o = some t → t < 2 ^ 31) {σ : ex_S} {μ : ex_L} (hC : NC σ b S) : Ci 5 yX3_costsOf cX3_costsOf 4 (some .int) [.ref b, .int (hI o)] TT σ μ (fun z' σ' μ' => z' = hI (o.map (ncs S)) ∧ σ' = σ ∧ μ' = μ) := by
  cases o with
  | none => exact c3_costsOf5 hN
  | some t => exact c3_costsOf hN hV (ho t rfl) hC
noncomputable def nofk (p : Nat) (S : ns_T) (k : Nat) (w : Int32) : Int32 :=
  if w = 0 then nI (S 1 k) else if w = 1 then nI (S 2 k) else if w = 2 then wI (S 3 k) else if w = 3 then nI (S 4 k) else if w = 4 then nI (ncost S k) else
  if w = 5 then (if (S 0 3).testBit k = true then -5 else nI (nsym p S k)) else if w = 6 then hI (nhelp p S k) else if w = 7 then hI ((nhelp p S k).map (ncs S)) else
  if w = 8 then hI (nloc p S k) else if 10 ≤ w ∧ w ≤ 14 then nI (nib (S 5 k) (w.toNatClampNeg - 10)) else -1
noncomputable def nof (p : Nat) (S : ns_T) (x w : Int32) : Int32 := if 0 ≤ x ∧ x < nI (S 0 0) then nofk p S x.toNatClampNeg w else -1
theorem nof_yes {p : Nat} {S : ns_T} (hV : VS S) {k : Nat} {w : Int32} (h : k < S 0 0) : nof p S (nI k) w = nofk p S k w := by
  have := hV.1
  unfold nof
  rw [i_cl (by omega)]
  exact if_pos ⟨i_nn (by omega), (i_lt (by omega) (by omega)).mpr h⟩
theorem i_1014 {w : Int32} (h1 : 10 ≤ w) (h2 : w ≤ 14) : ∃ c, c < 5 ∧ w = nI (10 + c) := by
  have h3 : (0 : Int32) ≤ w := by
    rw [Int32.le_iff_toInt_le] at *
    have : (10 : Int32).toInt = 10 := by decide
    have : (0 : Int32).toInt = 0 := by decide
    omega
  obtain ⟨k, hk, rfl⟩ := i_of (m := 14) (by decide) h3 (show _ ≤ nI 14 from h2)
  have := (i_le (a := 10) (b := k) (by decide) (by omega)).mp h1
  exact ⟨k - 10, by omega, by rw [Nat.add_sub_cancel' this]⟩
theorem nofk_form {p : Nat} {S : ns_T} {k c : Nat} (hc : c < 5) : nofk p S k (nI (10 + c)) = nI (nib (S 5 k) c) := by
  have hne : ∀ i, i < 9 → ¬ nI (10 + c) = nI i := fun i hi q => by
    have := (i_eq (by omega) (by omega)).mp q
    omega
  unfold nofk
  rw [if_neg (show ¬ nI (10 + c) = 0 from hne 0 (by decide)), if_neg (show ¬ nI (10 + c) = 1 from hne 1 (by decide)), if_neg (show ¬ nI (10 + c) = 2 from hne 2 (by decide)), if_neg (show ¬ nI (10 + c) = 3 from hne 3 (by decide)), if_neg (show ¬ nI (10 + c) = 4 from hne 4 (by decide)), if_neg (show ¬ nI (10 + c) = 5 from hne 5 (by decide)), if_neg (show ¬ nI (10 + c) = 6 from hne 6 (by decide)), if_neg (show ¬ nI (10 + c) = 7 from hne 7 (by decide)), if_neg (show ¬ nI (10 + c) = 8 from hne 8 (by decide)),
    if_pos ⟨(i_le (a := 10) (by decide) (by omega)).mpr (by omega), (i_le (b := 14) (by omega) (by decide)).mpr (by omega)⟩, i_cl (by omega), Nat.add_sub_cancel_left]

set_option maxRecDepth 100000 in
set_option maxHeartbeats 1000000 in
theorem c10_of {p : Nat} (hp : gP p) {S : ns_T} (hV : VS S) {x w : Int32} {σ : ex_S} {μ : ex_L}(hF : FC σ p) (hC : NC σ 33 S) (hK : RKI σ p S) (h0 : σ 31 0 = 0) : Ci 8 yX10_of cX10_of 4 (some .int) [.ref 0, .int x, .int w] TT σ μ (fun z' σ' μ' => z' = nof p S x w ∧ (∀ i, i ≠ 31 → σ' i = σ i) ∧ σ' 31 0 = 0 ∧ μ' = μ) := by
  refine Cl_of (by decide +kernel) (Nat.le_of_ble_eq_true rfl) ?_
  show Ev RX10 cX10_of 4 8 0 0 "of" (some .int) ev_ext _ _ 0 0 0 [(0, .ref 0), (1, .int x), (2, .int w)] [] TT σ μ
  have hn := hV.1
  have h2n := two_n hV
  refine e_aload_n dX10_of_0 rfl 0 rfl ?_
  refine e_getR dX10_of_1 lkX10_46 tt_0 rfl ?_
  refine e_getR dX10_of_4 lkX10_89 (store_0 store_32_) rfl ?_
  refine e_astore_n [(0, .ref 0), (1, .int x), (2, .int w), (3, .ref 33)] dX10_of_7 rfl (by decide) rfl ?_
  refine e_aload_n dX10_of_8 rfl 3 rfl ?_
  refine e_iload_n dX10_of_9 rfl 1 rfl ?_
  refine e_callVi dX10_of_10 cvX10_165 rfl (nodes_0 (store_n store_32_)) rfl (c3_hasN nodes_33_ hC x) (Nat.le_of_ble_eq_true rfl) (Nat.le_refl _) (Nat.le_refl _) rfl (Nat.le_of_ble_eq_true rfl) (fun r10 s10 m10 q10 => ?_)
  obtain ⟨q10, e10, g10⟩ := q10
  rw [e10, g10]
  clear e10 g10 s10 m10
  refine e_if_ne (t := 18) dX10_of_13 (by decide) (fun h13 => ?_) (fun h13 => ?_)
  · skip
    rw [q10, bI_eq0] at h13
    have hP := Classical.not_not.mp h13
    obtain ⟨k, hk, rfl⟩ := i_ofl (x := x) (m := S 0 0) (by omega) hP.1 (show _ < nI (S 0 0) from hP.2)
    obtain ⟨u1, u2, u3, u4, u5, u6⟩ := hC.2.2.2.2.1 k hk
    have v5 := (hV.2.2.2.2.2.2.1 k hk).2.2.2.1
    refine e_iload_n dX10_of_18 rfl 2 rfl ?_
    by_cases k19_0 : w = 0
    · rw [k19_0]
      refine e_tswIn (t := 68) dX10_of_19 (by decide) (by decide) rfl (by decide) ?_
      refine e_aload_n dX10_of_68 rfl 3 rfl ?_
      refine e_getR dX10_of_69 lkX10_168 (nodes_0 (store_n store_32_)) rfl ?_
      refine e_iload_n dX10_of_72 rfl 1 rfl ?_
      refine e_iald dX10_of_73 (nodes_1 (store_n store_32_)) (vp_in_nI (by omega) (by decide)) ?_
      refine e_reti dX10_of_74 ev_nwi (Nat.le_refl _) (Nat.le_refl _) ?_
      refine ⟨?_, fun _ _ => rfl, h0, rfl⟩
      rw [nof_yes hV hk]
      unfold nofk
      rw [if_pos rfl]
      rw [i_cl (by omega)]
      exact u1
    by_cases k19_1 : w = 1
    · rw [k19_1]
      refine e_tswIn (t := 75) dX10_of_19 (by decide) (by decide) rfl (by decide) ?_
      refine e_aload_n dX10_of_75 rfl 3 rfl ?_
      refine e_getR dX10_of_76 lkX10_175 (nodes_0 (store_n store_32_)) rfl ?_
      refine e_iload_n dX10_of_79 rfl 1 rfl ?_
      refine e_iald dX10_of_80 (nodes_2 (store_n store_32_)) (vp_in_nI (by omega) (by decide)) ?_
      refine e_reti dX10_of_81 ev_nwi (Nat.le_refl _) (Nat.le_refl _) ?_
      refine ⟨?_, fun _ _ => rfl, h0, rfl⟩
      rw [nof_yes hV hk]
      unfold nofk
      rw [if_neg (by decide), if_pos rfl]
      rw [i_cl (by omega)]
      exact u2
    by_cases k19_2 : w = 2
    · rw [k19_2]
      refine e_tswIn (t := 82) dX10_of_19 (by decide) (by decide) rfl (by decide) ?_
      refine e_aload_n dX10_of_82 rfl 3 rfl ?_
      refine e_getR dX10_of_83 lkX10_178 (nodes_0 (store_n store_32_)) rfl ?_
      refine e_iload_n dX10_of_86 rfl 1 rfl ?_
      refine e_iald dX10_of_87 (nodes_3 (store_n store_32_)) (vp_in_nI (by omega) (by decide)) ?_
      refine e_reti dX10_of_88 ev_nwi (Nat.le_refl _) (Nat.le_refl _) ?_
      refine ⟨?_, fun _ _ => rfl, h0, rfl⟩
      rw [nof_yes hV hk]
      unfold nofk
      rw [if_neg (by decide), if_neg (by decide), if_pos rfl]
      rw [i_cl (by omega)]
      exact u3
    by_cases k19_3 : w = 3
    · rw [k19_3]
      refine e_tswIn (t := 89) dX10_of_19 (by decide) (by decide) rfl (by decide) ?_
      refine e_aload_n dX10_of_89 rfl 3 rfl ?_
      refine e_getR dX10_of_90 lkX10_181 (nodes_0 (store_n store_32_)) rfl ?_
      refine e_iload_n dX10_of_93 rfl 1 rfl ?_
      refine e_iald dX10_of_94 (nodes_5 (store_n store_32_)) (vp_in_nI (by omega) (by decide)) ?_
      refine e_reti dX10_of_95 ev_nwi (Nat.le_refl _) (Nat.le_refl _) ?_
      refine ⟨?_, fun _ _ => rfl, h0, rfl⟩
      rw [nof_yes hV hk]
      unfold nofk
      rw [if_neg (by decide), if_neg (by decide), if_neg (by decide), if_pos rfl]
      rw [i_cl (by omega)]
      exact u5
    by_cases k19_4 : w = 4
    · rw [k19_4]
      refine e_tswIn (t := 96) dX10_of_19 (by decide) (by decide) rfl (by decide) ?_
      refine e_aload_n dX10_of_96 rfl 3 rfl ?_
      refine e_iload_n dX10_of_97 rfl 1 rfl ?_
      refine e_callVi dX10_of_98 cvX10_184 rfl (nodes_0 (store_n store_32_)) rfl (c3_costOf nodes_33_ hV hC hk) (Nat.le_of_ble_eq_true rfl) (Nat.le_refl _) (Nat.le_refl _) rfl (Nat.le_of_ble_eq_true rfl) (fun r98 s98 m98 q98 => ?_)
      obtain ⟨q98, e98, g98⟩ := q98
      rw [e98, g98]
      clear e98 g98 s98 m98
      refine e_reti dX10_of_101 ev_nwi (Nat.le_refl _) (Nat.le_refl _) ?_
      refine ⟨?_, fun _ _ => rfl, h0, rfl⟩
      rw [nof_yes hV hk]
      unfold nofk
      rw [if_neg (by decide), if_neg (by decide), if_neg (by decide), if_neg (by decide), if_pos rfl]
      exact q98
    by_cases k19_5 : w = 5
    · rw [k19_5]
      refine e_tswIn (t := 102) dX10_of_19 (by decide) (by decide) rfl (by decide) ?_
      refine e_aload_n dX10_of_102 rfl 3 rfl ?_
      refine e_iload_n dX10_of_103 rfl 1 rfl ?_
      refine e_callVi dX10_of_104 cvX10_187 rfl (nodes_0 (store_n store_32_)) rfl (c3_isMissingN nodes_33_ hV hC hk) (Nat.le_of_ble_eq_true rfl) (Nat.le_refl _) (Nat.le_refl _) rfl (Nat.le_of_ble_eq_true rfl) (fun r104 s104 m104 q104 => ?_)
      obtain ⟨q104, e104, g104⟩ := q104
      rw [e104, g104]
      clear e104 g104 s104 m104
      refine e_if_eq (t := 115) dX10_of_107 (by decide) (fun h107 => ?_) (fun h107 => ?_)
      · skip
        refine e_aload_n dX10_of_115 rfl 3 rfl ?_
        refine e_aload_n dX10_of_116 rfl 0 rfl ?_
        refine e_getR dX10_of_117 lkX10_12 tt_0 rfl ?_
        refine e_iload_n dX10_of_120 rfl 1 rfl ?_
        refine e_callVi dX10_of_121 cvX10_190 rfl (nodes_0 (store_n store_32_)) rfl (c3_symbolOf nodes_33_ hp hV hF hC hk) (Nat.le_of_ble_eq_true rfl) (Nat.le_refl _) (Nat.le_refl _) rfl (Nat.le_of_ble_eq_true rfl) (fun r121 s121 m121 q121 => ?_)
        obtain ⟨q121, e121, g121⟩ := q121
        rw [e121, g121]
        clear e121 g121 s121 m121
        refine e_reti dX10_of_124 ev_nwi (Nat.le_refl _) (Nat.le_refl _) ?_
        refine ⟨?_, fun _ _ => rfl, h0, rfl⟩
        rw [nof_yes hV hk]
        unfold nofk
        rw [if_neg (by decide), if_neg (by decide), if_neg (by decide), if_neg (by decide), if_neg (by decide), if_pos rfl]
        rw [q104, bI_eq0] at h107
        rw [if_neg h107]
        exact q121
      · skip
        refine e_bipush (v := (-5)) dX10_of_110 rfl ?_
        refine e_goto (t := 124) dX10_of_112 (by decide) ?_
        refine e_reti dX10_of_124 ev_nwi (Nat.le_refl _) (Nat.le_refl _) ?_
        refine ⟨?_, fun _ _ => rfl, h0, rfl⟩
        rw [nof_yes hV hk]
        unfold nofk
        rw [if_neg (by decide), if_neg (by decide), if_neg (by decide), if_neg (by decide), if_neg (by decide), if_pos rfl]
        rw [q104, bI_eq0] at h107
        exact (if_pos (Classical.not_not.mp h107)).symm
    by_cases k19_6 : w = 6
    · rw [k19_6]
      refine e_tswIn (t := 125) dX10_of_19 (by decide) (by decide) rfl (by decide) ?_
      refine e_aload_n dX10_of_125 rfl 0 rfl ?_
      refine e_getR dX10_of_126 lkX10_39 tt_0 rfl ?_
      refine e_aload_n dX10_of_129 rfl 3 rfl ?_
      refine e_iload_n dX10_of_130 rfl 1 rfl ?_
      refine e_callVi dX10_of_131 cvX10_194 rfl tt_30 rfl (c2_helpOf nodes_33_ (by decide) hp hV hk hC hK h0) (Nat.le_of_ble_eq_true rfl) (Nat.le_refl _) (Nat.le_refl _) rfl (Nat.le_of_ble_eq_true rfl) (fun r131 s131 m131 q131 => ?_)
      obtain ⟨q131, a1, a2, a3⟩ := q131
      rw [a3]
      refine e_reti dX10_of_134 ev_nwi (Nat.le_refl _) (Nat.le_refl _) ?_
      refine ⟨?_, a1, a2, rfl⟩
      rw [nof_yes hV hk]
      unfold nofk
      rw [if_neg (by decide), if_neg (by decide), if_neg (by decide), if_neg (by decide), if_neg (by decide), if_neg (by decide), if_pos rfl]
      exact q131
    by_cases k19_7 : w = 7
    · rw [k19_7]
      refine e_tswIn (t := 135) dX10_of_19 (by decide) (by decide) rfl (by decide) ?_
      refine e_aload_n dX10_of_135 rfl 3 rfl ?_
      refine e_aload_n dX10_of_136 rfl 0 rfl ?_
      refine e_getR dX10_of_137 lkX10_39 tt_0 rfl ?_
      refine e_aload_n dX10_of_140 rfl 3 rfl ?_
      refine e_iload_n dX10_of_141 rfl 1 rfl ?_
      refine e_callVi dX10_of_142 cvX10_194 rfl tt_30 rfl (c2_helpOf nodes_33_ (by decide) hp hV hk hC hK h0) (Nat.le_of_ble_eq_true rfl) (Nat.le_refl _) (Nat.le_refl _) rfl (Nat.le_of_ble_eq_true rfl) (fun r142 s142 m142 q142 => ?_)
      obtain ⟨q142, a1, a2, a3⟩ := q142
      rw [a3]
      subst q142
      refine e_callVi dX10_of_145 cvX10_198 rfl (nodes_0 (store_n store_32_)) rfl (c3_costsOfH nodes_33_ hV (fun t ht => Nat.lt_trans (nhelp_lt hV ht) (by decide)) (hC.to hV (σ' := s142) (fun k h1 h2 => a1 k (by omega)))) (Nat.le_of_ble_eq_true rfl) (Nat.le_refl _) (Nat.le_refl _) rfl (Nat.le_of_ble_eq_true rfl) (fun r145 s145 m145 q145 => ?_)
      obtain ⟨q145, e145, g145⟩ := q145
      rw [e145, g145]
      clear e145 g145 s145 m145
      refine e_reti dX10_of_148 ev_nwi (Nat.le_refl _) (Nat.le_refl _) ?_
      refine ⟨?_, a1, a2, rfl⟩
      rw [nof_yes hV hk]
      unfold nofk
      rw [if_neg (by decide), if_neg (by decide), if_neg (by decide), if_neg (by decide), if_neg (by decide), if_neg (by decide), if_neg (by decide), if_pos rfl]
      exact q145
    by_cases k19_8 : w = 8
    · rw [k19_8]
      refine e_tswIn (t := 149) dX10_of_19 (by decide) (by decide) rfl (by decide) ?_
      refine e_aload_n dX10_of_149 rfl 0 rfl ?_
      refine e_iload_n dX10_of_150 rfl 1 rfl ?_
      refine e_callVi dX10_of_151 cvX10_201 rfl tt_0 rfl (c10_fewest hp hV hk hC hK) (Nat.le_of_ble_eq_true rfl) (Nat.le_refl _) (Nat.le_refl _) rfl (Nat.le_of_ble_eq_true rfl) (fun r151 s151 m151 q151 => ?_)
      obtain ⟨q151, e151, g151⟩ := q151
      rw [e151, g151]
      clear e151 g151 s151 m151
      refine e_reti dX10_of_154 ev_nwi (Nat.le_refl _) (Nat.le_refl _) ?_
      refine ⟨?_, fun _ _ => rfl, h0, rfl⟩
      rw [nof_yes hV hk]
      unfold nofk
      rw [if_neg (by decide), if_neg (by decide), if_neg (by decide), if_neg (by decide), if_neg (by decide), if_neg (by decide), if_neg (by decide), if_neg (by decide), if_pos rfl]
      exact q151
    refine e_tswOut (t := 155) dX10_of_19 (by
      have a0 := i32_ne k19_0
      have b0 : (0 : Int32).toInt = 0 := by decide
      have a1 := i32_ne k19_1
      have b1 : (1 : Int32).toInt = 1 := by decide
      have a2 := i32_ne k19_2
      have b2 : (2 : Int32).toInt = 2 := by decide
      have a3 := i32_ne k19_3
      have b3 : (3 : Int32).toInt = 3 := by decide
      have a4 := i32_ne k19_4
      have b4 : (4 : Int32).toInt = 4 := by decide
      have a5 := i32_ne k19_5
      have b5 : (5 : Int32).toInt = 5 := by decide
      have a6 := i32_ne k19_6
      have b6 : (6 : Int32).toInt = 6 := by decide
      have a7 := i32_ne k19_7
      have b7 : (7 : Int32).toInt = 7 := by decide
      have a8 := i32_ne k19_8
      have b8 : (8 : Int32).toInt = 8 := by decide
      omega) (by decide) ?_
    refine e_iload_n dX10_of_155 rfl 2 rfl ?_
    refine e_bipush (v := 10) dX10_of_156 rfl ?_
    refine e_icmp_lt (t := 183) dX10_of_158 (by decide) (fun h158 => ?_) (fun h158 => ?_)
    · skip
      skip
      refine e_iconst (v := (-1)) dX10_of_183 rfl ?_
      refine e_reti dX10_of_184 ev_nwi (Nat.le_refl _) (Nat.le_refl _) ?_
      refine ⟨?_, fun _ _ => rfl, h0, rfl⟩
      rw [nof_yes hV hk]
      unfold nofk
      rw [if_neg k19_0, if_neg k19_1, if_neg k19_2, if_neg k19_3, if_neg k19_4, if_neg k19_5, if_neg k19_6, if_neg k19_7, if_neg k19_8]
      exact (if_neg (fun q => by
        have a1 := Int32.lt_iff_toInt_lt.mp h158
        have a2 := Int32.le_iff_toInt_le.mp q.1
        omega)).symm
    · skip
      refine e_iload_n dX10_of_161 rfl 2 rfl ?_
      refine e_bipush (v := 15) dX10_of_162 rfl ?_
      refine e_icmp_ge (t := 183) dX10_of_164 (by decide) (fun h164 => ?_) (fun h164 => ?_)
      · skip
        skip
        refine e_iconst (v := (-1)) dX10_of_183 rfl ?_
        refine e_reti dX10_of_184 ev_nwi (Nat.le_refl _) (Nat.le_refl _) ?_
        refine ⟨?_, fun _ _ => rfl, h0, rfl⟩
        rw [nof_yes hV hk]
        unfold nofk
        rw [if_neg k19_0, if_neg k19_1, if_neg k19_2, if_neg k19_3, if_neg k19_4, if_neg k19_5, if_neg k19_6, if_neg k19_7, if_neg k19_8]
        exact (if_neg (fun q => by
          have a1 := Int32.le_iff_toInt_le.mp h164
          have a2 := Int32.le_iff_toInt_le.mp q.2
          have : (14 : Int32).toInt = 14 := by decide
          have : (15 : Int32).toInt = 15 := by decide
          omega)).symm
      · skip
        obtain ⟨c, hc, hw⟩ := i_1014 (fa_of_nlt h158) (by
          have a1 := Int32.lt_iff_toInt_lt.mp (fa_of_nle h164)
          rw [Int32.le_iff_toInt_le]
          have : (14 : Int32).toInt = 14 := by decide
          have : (15 : Int32).toInt = 15 := by decide
          omega)
        subst hw
        refine e_aload_n dX10_of_167 rfl 3 rfl ?_
        refine e_getR dX10_of_168 lkX10_204 (nodes_0 (store_n store_32_)) rfl ?_
        refine e_iload_n dX10_of_171 rfl 1 rfl ?_
        refine e_iald dX10_of_172 (nodes_4 (store_n store_32_)) (vp_in_nI (by omega) (by decide)) ?_
        refine e_iload_n dX10_of_173 rfl 2 rfl ?_
        refine e_bipush (v := 10) dX10_of_174 rfl ?_
        refine e_isub dX10_of_176 ?_
        rw [show nI (10 + c) - 10 = nI c from (i_sub (a := 10 + c) (b := 10) (by omega)).trans (by rw [Nat.add_sub_cancel_left]), i_cl (by omega), u4]
        refine e_callSi dX10_of_177 cvX10_207 rfl (c10_numberAt (nI (S 5 k)) (nI c)) (Nat.le_of_ble_eq_true rfl) (Nat.le_refl _) (Nat.le_refl _) rfl (Nat.le_of_ble_eq_true rfl) (fun r177 s177 m177 q177 => ?_)
        obtain ⟨q177, e177, g177⟩ := q177
        rw [e177, g177]
        clear e177 g177 s177 m177
        refine e_goto (t := 184) dX10_of_180 (by decide) ?_
        refine e_reti dX10_of_184 ev_nwi (Nat.le_refl _) (Nat.le_refl _) ?_
        refine ⟨?_, fun _ _ => rfl, h0, rfl⟩
        rw [nof_yes hV hk]
        rw [nofk_form hc, q177]
        exact i_nib (by omega) (by omega)
  · skip
    rw [q10] at h13
    refine e_iconst (v := (-1)) dX10_of_16 rfl ?_
    refine e_reti dX10_of_17 ev_nwi (Nat.le_refl _) (Nat.le_refl _) ?_
    exact ⟨(if_neg (bI_eq0.mp h13)).symm, fun _ _ => rfl, h0, rfl⟩

set_option maxRecDepth 100000 in
set_option maxHeartbeats 1000000 in
theorem c11_of {p : Nat} (hp : gP p) {S : ns_T} (hV : VS S) {x w : Int32} {σ : ex_S} {μ : ex_L}(hF : FR σ p) (hR : NR σ S) : Ci 9 yX11_of cX11_of 3 (some .int) [.ref 127, .int x, .int w] TT σ μ (fun z' σ' μ' => z' = nof p S x w ∧ FrS σ σ' ∧ μ' = μ) := by
  refine Cl_of (by decide +kernel) (Nat.le_of_ble_eq_true rfl) ?_
  show Ev RX11 cX11_of 3 9 0 0 "of" (some .int) ev_ext _ _ 0 0 0 [(0, .ref 127), (1, .int x), (2, .int w)] [] TT σ μ
  have hn := hV.1
  have h2n := two_n hV
  refine e_aload_n dX11_of_0 rfl 0 rfl ?_
  refine e_iload_n dX11_of_1 rfl 1 rfl ?_
  refine e_callVi dX11_of_2 cvX11_169 rfl tt_127 rfl (c11_isOneN hV hR x) (Nat.le_of_ble_eq_true rfl) (Nat.le_refl _) (Nat.le_refl _) rfl (Nat.le_of_ble_eq_true rfl) (fun r2 s2 m2 q2 => ?_)
  obtain ⟨q2, e2, g2⟩ := q2
  rw [e2, g2]
  clear e2 g2 s2 m2
  refine e_if_ne (t := 10) dX11_of_5 (by decide) (fun h5 => ?_) (fun h5 => ?_)
  · skip
    rw [q2, bI_eq0] at h5
    have hP := Classical.not_not.mp h5
    obtain ⟨k, hk, rfl⟩ := i_ofl (x := x) (m := S 0 0) (by omega) hP.1 (show _ < nI (S 0 0) from hP.2)
    refine e_iload_n dX11_of_10 rfl 2 rfl ?_
    refine e_bipush (v := 10) dX11_of_11 rfl ?_
    refine e_bipush (v := 14) dX11_of_13 rfl ?_
    refine e_callSi dX11_of_15 cvX11_99 rfl (c11_within w 10 14) (Nat.le_of_ble_eq_true rfl) (Nat.le_refl _) (Nat.le_refl _) rfl (Nat.le_of_ble_eq_true rfl) (fun r15 s15 m15 q15 => ?_)
    obtain ⟨q15, e15, g15⟩ := q15
    rw [e15, g15]
    clear e15 g15 s15 m15
    refine e_if_eq (t := 35) dX11_of_18 (by decide) (fun h18 => ?_) (fun h18 => ?_)
    · skip
      rw [q15, bI_eq0] at h18
      refine e_iload_n dX11_of_35 rfl 2 rfl ?_
      refine e_bipush (v := 6) dX11_of_36 rfl ?_
      refine e_bipush (v := 7) dX11_of_38 rfl ?_
      refine e_callSi dX11_of_40 cvX11_99 rfl (c11_within w 6 7) (Nat.le_of_ble_eq_true rfl) (Nat.le_refl _) (Nat.le_refl _) rfl (Nat.le_of_ble_eq_true rfl) (fun r40 s40 m40 q40 => ?_)
      obtain ⟨q40, e40, g40⟩ := q40
      rw [e40, g40]
      clear e40 g40 s40 m40
      refine e_if_eq (t := 51) dX11_of_43 (by decide) (fun h43 => ?_) (fun h43 => ?_)
      · skip
        rw [q40, bI_eq0] at h43
        have k52_6 : ¬ w = 6 := fun q => h43 (by rw [q]; decide)
        have k52_7 : ¬ w = 7 := fun q => h43 (by rw [q]; decide)
        have hR1 := hR
        have hF1 := hF
        have f1 : FrS σ σ := FrS.rf
        refine e_iload_n dX11_of_51 rfl 2 rfl ?_
        by_cases k52_0 : w = 0
        · rw [k52_0]
          refine e_tswIn (t := 104) dX11_of_52 (by decide) (by decide) rfl (by decide) ?_
          refine e_aload_n dX11_of_104 rfl 0 rfl ?_
          refine e_getR dX11_of_105 lkX11_21 tt_127 rfl ?_
          refine e_iload_n dX11_of_108 rfl 1 rfl ?_
          refine e_iald dX11_of_109 tt_131 (vp_in_nI (by omega) (by decide)) ?_
          refine e_reti dX11_of_110 ev_nwi (Nat.le_refl _) (Nat.le_refl _) ?_
          refine ⟨?_, f1, rfl⟩
          rw [nof_yes hV hk]
          unfold nofk
          rw [if_pos rfl]
          obtain ⟨u1, u2, u3, u4, u5, u6, u7⟩ := hR1.2.2.2.1 k hk
          rw [i_cl (by omega)]
          exact u1
        by_cases k52_1 : w = 1
        · rw [k52_1]
          refine e_tswIn (t := 111) dX11_of_52 (by decide) (by decide) rfl (by decide) ?_
          refine e_aload_n dX11_of_111 rfl 0 rfl ?_
          refine e_getR dX11_of_112 lkX11_24 tt_127 rfl ?_
          refine e_iload_n dX11_of_115 rfl 1 rfl ?_
          refine e_iald dX11_of_116 tt_132 (vp_in_nI (by omega) (by decide)) ?_
          refine e_reti dX11_of_117 ev_nwi (Nat.le_refl _) (Nat.le_refl _) ?_
          refine ⟨?_, f1, rfl⟩
          rw [nof_yes hV hk]
          unfold nofk
          rw [if_neg (by decide), if_pos rfl]
          obtain ⟨u1, u2, u3, u4, u5, u6, u7⟩ := hR1.2.2.2.1 k hk
          rw [i_cl (by omega)]
          exact u2
        by_cases k52_2 : w = 2
        · rw [k52_2]
          refine e_tswIn (t := 118) dX11_of_52 (by decide) (by decide) rfl (by decide) ?_
          refine e_aload_n dX11_of_118 rfl 0 rfl ?_
          refine e_getR dX11_of_119 lkX11_27 tt_127 rfl ?_
          refine e_iload_n dX11_of_122 rfl 1 rfl ?_
          refine e_iald dX11_of_123 tt_133 (vp_in_nI (by omega) (by decide)) ?_
          refine e_reti dX11_of_124 ev_nwi (Nat.le_refl _) (Nat.le_refl _) ?_
          refine ⟨?_, f1, rfl⟩
          rw [nof_yes hV hk]
          unfold nofk
          rw [if_neg (by decide), if_neg (by decide), if_pos rfl]
          obtain ⟨u1, u2, u3, u4, u5, u6, u7⟩ := hR1.2.2.2.1 k hk
          rw [i_cl (by omega)]
          exact u3
        by_cases k52_3 : w = 3
        · rw [k52_3]
          refine e_tswIn (t := 125) dX11_of_52 (by decide) (by decide) rfl (by decide) ?_
          refine e_aload_n dX11_of_125 rfl 0 rfl ?_
          refine e_getR dX11_of_126 lkX11_30 tt_127 rfl ?_
          refine e_iload_n dX11_of_129 rfl 1 rfl ?_
          refine e_iald dX11_of_130 tt_134 (vp_in_nI (by omega) (by decide)) ?_
          refine e_reti dX11_of_131 ev_nwi (Nat.le_refl _) (Nat.le_refl _) ?_
          refine ⟨?_, f1, rfl⟩
          rw [nof_yes hV hk]
          unfold nofk
          rw [if_neg (by decide), if_neg (by decide), if_neg (by decide), if_pos rfl]
          obtain ⟨u1, u2, u3, u4, u5, u6, u7⟩ := hR1.2.2.2.1 k hk
          rw [i_cl (by omega)]
          exact u4
        by_cases k52_4 : w = 4
        · rw [k52_4]
          refine e_tswIn (t := 132) dX11_of_52 (by decide) (by decide) rfl (by decide) ?_
          refine e_aload_n dX11_of_132 rfl 0 rfl ?_
          refine e_iload_n dX11_of_133 rfl 1 rfl ?_
          refine e_callVi dX11_of_134 cvX11_183 rfl tt_127 rfl (c11_cost hV hR1 hk) (Nat.le_of_ble_eq_true rfl) (Nat.le_refl _) (Nat.le_refl _) rfl (Nat.le_of_ble_eq_true rfl) (fun r134 s134 m134 q134 => ?_)
          obtain ⟨q134, e134, g134⟩ := q134
          rw [e134, g134]
          clear e134 g134 s134 m134
          refine e_reti dX11_of_137 ev_nwi (Nat.le_refl _) (Nat.le_refl _) ?_
          refine ⟨?_, f1, rfl⟩
          rw [nof_yes hV hk]
          unfold nofk
          rw [if_neg (by decide), if_neg (by decide), if_neg (by decide), if_neg (by decide), if_pos rfl]
          exact q134
        by_cases k52_5 : w = 5
        · rw [k52_5]
          refine e_tswIn (t := 138) dX11_of_52 (by decide) (by decide) rfl (by decide) ?_
          refine e_aload_n dX11_of_138 rfl 0 rfl ?_
          refine e_getR dX11_of_139 lkX11_33 tt_127 rfl ?_
          refine e_iload_n dX11_of_142 rfl 1 rfl ?_
          refine e_iald dX11_of_143 tt_135 (vp_in_nI (by omega) (by decide)) ?_
          refine e_iconst (v := 1) dX11_of_144 rfl ?_
          refine e_icmp_ne (t := 153) dX11_of_145 (by decide) (fun h145 => ?_) (fun h145 => ?_)
          · skip
            refine e_aload_n dX11_of_153 rfl 0 rfl ?_
            refine e_iload_n dX11_of_154 rfl 1 rfl ?_
            refine e_callVi dX11_of_155 cvX11_187 rfl tt_127 rfl (c11_symbol hp hV hF1 hR1 hk) (Nat.le_of_ble_eq_true rfl) (Nat.le_refl _) (Nat.le_refl _) rfl (Nat.le_of_ble_eq_true rfl) (fun r155 s155 m155 q155 => ?_)
            obtain ⟨q155, e155, g155⟩ := q155
            rw [e155, g155]
            clear e155 g155 s155 m155
            refine e_reti dX11_of_158 ev_nwi (Nat.le_refl _) (Nat.le_refl _) ?_
            refine ⟨?_, f1, rfl⟩
            rw [nof_yes hV hk]
            unfold nofk
            rw [if_neg (by decide), if_neg (by decide), if_neg (by decide), if_neg (by decide), if_neg (by decide), if_pos rfl]
            obtain ⟨u1, u2, u3, u4, u5, u6, u7⟩ := hR1.2.2.2.1 k hk
            rw [i_cl (by omega), u5] at h145
            rw [if_neg (fun q => h145 (by rw [q]; rfl))]
            exact q155
          · skip
            refine e_bipush (v := (-5)) dX11_of_148 rfl ?_
            refine e_goto (t := 158) dX11_of_150 (by decide) ?_
            refine e_reti dX11_of_158 ev_nwi (Nat.le_refl _) (Nat.le_refl _) ?_
            refine ⟨?_, f1, rfl⟩
            rw [nof_yes hV hk]
            unfold nofk
            rw [if_neg (by decide), if_neg (by decide), if_neg (by decide), if_neg (by decide), if_neg (by decide), if_pos rfl]
            obtain ⟨u1, u2, u3, u4, u5, u6, u7⟩ := hR1.2.2.2.1 k hk
            rw [i_cl (by omega), u5] at h145
            cases hb9 : (S 0 3).testBit k with
            | true => rfl
            | false => exact absurd (show nI 0 = nI 1 from by rw [hb9] at h145; exact h145) (by decide)
        by_cases k52_8 : w = 8
        · rw [k52_8]
          refine e_tswIn (t := 169) dX11_of_52 (by decide) (by decide) rfl (by decide) ?_
          refine e_aload_n dX11_of_169 rfl 0 rfl ?_
          refine e_iload_n dX11_of_170 rfl 1 rfl ?_
          refine e_callVi dX11_of_171 cvX11_196 rfl tt_127 rfl (c11_local hp hV hk hF1 hR1) (Nat.le_of_ble_eq_true rfl) (Nat.le_refl _) (Nat.le_refl _) rfl (Nat.le_of_ble_eq_true rfl) (fun r171 s171 m171 q171 => ?_)
          obtain ⟨q171, b1, b2⟩ := q171
          rw [b2]
          refine e_reti dX11_of_174 ev_nwi (Nat.le_refl _) (Nat.le_refl _) ?_
          refine ⟨?_, f1.tr b1.S, rfl⟩
          rw [nof_yes hV hk]
          unfold nofk
          rw [if_neg (by decide), if_neg (by decide), if_neg (by decide), if_neg (by decide), if_neg (by decide), if_neg (by decide), if_neg (by decide), if_neg (by decide), if_pos rfl]
          exact q171
        refine e_tswOut (t := 175) dX11_of_52 (by
      have a0 := i32_ne k52_0
      have b0 : (0 : Int32).toInt = 0 := by decide
      have a1 := i32_ne k52_1
      have b1 : (1 : Int32).toInt = 1 := by decide
      have a2 := i32_ne k52_2
      have b2 : (2 : Int32).toInt = 2 := by decide
      have a3 := i32_ne k52_3
      have b3 : (3 : Int32).toInt = 3 := by decide
      have a4 := i32_ne k52_4
      have b4 : (4 : Int32).toInt = 4 := by decide
      have a5 := i32_ne k52_5
      have b5 : (5 : Int32).toInt = 5 := by decide
      have a6 := i32_ne k52_6
      have b6 : (6 : Int32).toInt = 6 := by decide
      have a7 := i32_ne k52_7
      have b7 : (7 : Int32).toInt = 7 := by decide
      have a8 := i32_ne k52_8
      have b8 : (8 : Int32).toInt = 8 := by decide
      omega) (by decide) ?_
        refine e_iconst (v := (-1)) dX11_of_175 rfl ?_
        refine e_reti dX11_of_176 ev_nwi (Nat.le_refl _) (Nat.le_refl _) ?_
        refine ⟨?_, f1, rfl⟩
        rw [nof_yes hV hk]
        unfold nofk
        rw [if_neg k52_0, if_neg k52_1, if_neg k52_2, if_neg k52_3, if_neg k52_4, if_neg k52_5, if_neg k52_6, if_neg k52_7, if_neg k52_8]
        exact (if_neg h18).symm
      · skip
        skip
        refine e_aload_n dX11_of_46 rfl 0 rfl ?_
        refine e_iload_n dX11_of_47 rfl 1 rfl ?_
        refine e_callVv dX11_of_48 cvX11_180 rfl tt_127 rfl (c11_helps hp hV hk hF hR) (Nat.le_of_ble_eq_true rfl) (Nat.le_refl _) (Nat.le_refl _) rfl (Nat.le_of_ble_eq_true rfl) (fun s48 m48 q48 => ?_)
        obtain ⟨a1, a2, f1, a4⟩ := q48
        rw [a4]
        have hR1 := hR.toS f1
        have hF1 := hF.toS f1
        refine e_iload_n dX11_of_51 rfl 2 rfl ?_
        by_cases k52_0 : w = 0
        · rw [k52_0]
          refine e_tswIn (t := 104) dX11_of_52 (by decide) (by decide) rfl (by decide) ?_
          refine e_aload_n dX11_of_104 rfl 0 rfl ?_
          refine e_getR dX11_of_105 lkX11_21 tt_127 rfl ?_
          refine e_iload_n dX11_of_108 rfl 1 rfl ?_
          refine e_iald dX11_of_109 tt_131 (vp_in_nI (by omega) (by decide)) ?_
          refine e_reti dX11_of_110 ev_nwi (Nat.le_refl _) (Nat.le_refl _) ?_
          refine ⟨?_, f1, rfl⟩
          rw [nof_yes hV hk]
          unfold nofk
          rw [if_pos rfl]
          obtain ⟨u1, u2, u3, u4, u5, u6, u7⟩ := hR1.2.2.2.1 k hk
          rw [i_cl (by omega)]
          exact u1
        by_cases k52_1 : w = 1
        · rw [k52_1]
          refine e_tswIn (t := 111) dX11_of_52 (by decide) (by decide) rfl (by decide) ?_
          refine e_aload_n dX11_of_111 rfl 0 rfl ?_
          refine e_getR dX11_of_112 lkX11_24 tt_127 rfl ?_
          refine e_iload_n dX11_of_115 rfl 1 rfl ?_
          refine e_iald dX11_of_116 tt_132 (vp_in_nI (by omega) (by decide)) ?_
          refine e_reti dX11_of_117 ev_nwi (Nat.le_refl _) (Nat.le_refl _) ?_
          refine ⟨?_, f1, rfl⟩
          rw [nof_yes hV hk]
          unfold nofk
          rw [if_neg (by decide), if_pos rfl]
          obtain ⟨u1, u2, u3, u4, u5, u6, u7⟩ := hR1.2.2.2.1 k hk
          rw [i_cl (by omega)]
          exact u2
        by_cases k52_2 : w = 2
        · rw [k52_2]
          refine e_tswIn (t := 118) dX11_of_52 (by decide) (by decide) rfl (by decide) ?_
          refine e_aload_n dX11_of_118 rfl 0 rfl ?_
          refine e_getR dX11_of_119 lkX11_27 tt_127 rfl ?_
          refine e_iload_n dX11_of_122 rfl 1 rfl ?_
          refine e_iald dX11_of_123 tt_133 (vp_in_nI (by omega) (by decide)) ?_
          refine e_reti dX11_of_124 ev_nwi (Nat.le_refl _) (Nat.le_refl _) ?_
          refine ⟨?_, f1, rfl⟩
          rw [nof_yes hV hk]
          unfold nofk
          rw [if_neg (by decide), if_neg (by decide), if_pos rfl]
          obtain ⟨u1, u2, u3, u4, u5, u6, u7⟩ := hR1.2.2.2.1 k hk
          rw [i_cl (by omega)]
          exact u3
        by_cases k52_3 : w = 3
        · rw [k52_3]
          refine e_tswIn (t := 125) dX11_of_52 (by decide) (by decide) rfl (by decide) ?_
          refine e_aload_n dX11_of_125 rfl 0 rfl ?_
          refine e_getR dX11_of_126 lkX11_30 tt_127 rfl ?_
          refine e_iload_n dX11_of_129 rfl 1 rfl ?_
          refine e_iald dX11_of_130 tt_134 (vp_in_nI (by omega) (by decide)) ?_
          refine e_reti dX11_of_131 ev_nwi (Nat.le_refl _) (Nat.le_refl _) ?_
          refine ⟨?_, f1, rfl⟩
          rw [nof_yes hV hk]
          unfold nofk
          rw [if_neg (by decide), if_neg (by decide), if_neg (by decide), if_pos rfl]
          obtain ⟨u1, u2, u3, u4, u5, u6, u7⟩ := hR1.2.2.2.1 k hk
          rw [i_cl (by omega)]
          exact u4
        by_cases k52_4 : w = 4
        · rw [k52_4]
          refine e_tswIn (t := 132) dX11_of_52 (by decide) (by decide) rfl (by decide) ?_
          refine e_aload_n dX11_of_132 rfl 0 rfl ?_
          refine e_iload_n dX11_of_133 rfl 1 rfl ?_
          refine e_callVi dX11_of_134 cvX11_183 rfl tt_127 rfl (c11_cost hV hR1 hk) (Nat.le_of_ble_eq_true rfl) (Nat.le_refl _) (Nat.le_refl _) rfl (Nat.le_of_ble_eq_true rfl) (fun r134 s134 m134 q134 => ?_)
          obtain ⟨q134, e134, g134⟩ := q134
          rw [e134, g134]
          clear e134 g134 s134 m134
          refine e_reti dX11_of_137 ev_nwi (Nat.le_refl _) (Nat.le_refl _) ?_
          refine ⟨?_, f1, rfl⟩
          rw [nof_yes hV hk]
          unfold nofk
          rw [if_neg (by decide), if_neg (by decide), if_neg (by decide), if_neg (by decide), if_pos rfl]
          exact q134
        by_cases k52_5 : w = 5
        · rw [k52_5]
          refine e_tswIn (t := 138) dX11_of_52 (by decide) (by decide) rfl (by decide) ?_
          refine e_aload_n dX11_of_138 rfl 0 rfl ?_
          refine e_getR dX11_of_139 lkX11_33 tt_127 rfl ?_
          refine e_iload_n dX11_of_142 rfl 1 rfl ?_
          refine e_iald dX11_of_143 tt_135 (vp_in_nI (by omega) (by decide)) ?_
          refine e_iconst (v := 1) dX11_of_144 rfl ?_
          refine e_icmp_ne (t := 153) dX11_of_145 (by decide) (fun h145 => ?_) (fun h145 => ?_)
          · skip
            refine e_aload_n dX11_of_153 rfl 0 rfl ?_
            refine e_iload_n dX11_of_154 rfl 1 rfl ?_
            refine e_callVi dX11_of_155 cvX11_187 rfl tt_127 rfl (c11_symbol hp hV hF1 hR1 hk) (Nat.le_of_ble_eq_true rfl) (Nat.le_refl _) (Nat.le_refl _) rfl (Nat.le_of_ble_eq_true rfl) (fun r155 s155 m155 q155 => ?_)
            obtain ⟨q155, e155, g155⟩ := q155
            rw [e155, g155]
            clear e155 g155 s155 m155
            refine e_reti dX11_of_158 ev_nwi (Nat.le_refl _) (Nat.le_refl _) ?_
            refine ⟨?_, f1, rfl⟩
            rw [nof_yes hV hk]
            unfold nofk
            rw [if_neg (by decide), if_neg (by decide), if_neg (by decide), if_neg (by decide), if_neg (by decide), if_pos rfl]
            obtain ⟨u1, u2, u3, u4, u5, u6, u7⟩ := hR1.2.2.2.1 k hk
            rw [i_cl (by omega), u5] at h145
            rw [if_neg (fun q => h145 (by rw [q]; rfl))]
            exact q155
          · skip
            refine e_bipush (v := (-5)) dX11_of_148 rfl ?_
            refine e_goto (t := 158) dX11_of_150 (by decide) ?_
            refine e_reti dX11_of_158 ev_nwi (Nat.le_refl _) (Nat.le_refl _) ?_
            refine ⟨?_, f1, rfl⟩
            rw [nof_yes hV hk]
            unfold nofk
            rw [if_neg (by decide), if_neg (by decide), if_neg (by decide), if_neg (by decide), if_neg (by decide), if_pos rfl]
            obtain ⟨u1, u2, u3, u4, u5, u6, u7⟩ := hR1.2.2.2.1 k hk
            rw [i_cl (by omega), u5] at h145
            cases hb9 : (S 0 3).testBit k with
            | true => rfl
            | false => exact absurd (show nI 0 = nI 1 from by rw [hb9] at h145; exact h145) (by decide)
        by_cases k52_6 : w = 6
        · rw [k52_6]
          refine e_tswIn (t := 159) dX11_of_52 (by decide) (by decide) rfl (by decide) ?_
          refine e_aload_n dX11_of_159 rfl 0 rfl ?_
          refine e_getI dX11_of_160 lkX11_190 tt_127 rfl ?_
          refine e_reti dX11_of_163 ev_nwi (Nat.le_refl _) (Nat.le_refl _) ?_
          refine ⟨?_, f1, rfl⟩
          rw [nof_yes hV hk]
          unfold nofk
          rw [if_neg (by decide), if_neg (by decide), if_neg (by decide), if_neg (by decide), if_neg (by decide), if_neg (by decide), if_pos rfl]
          exact a1
        by_cases k52_7 : w = 7
        · rw [k52_7]
          refine e_tswIn (t := 164) dX11_of_52 (by decide) (by decide) rfl (by decide) ?_
          refine e_aload_n dX11_of_164 rfl 0 rfl ?_
          refine e_getI dX11_of_165 lkX11_193 tt_127 rfl ?_
          refine e_reti dX11_of_168 ev_nwi (Nat.le_refl _) (Nat.le_refl _) ?_
          refine ⟨?_, f1, rfl⟩
          rw [nof_yes hV hk]
          unfold nofk
          rw [if_neg (by decide), if_neg (by decide), if_neg (by decide), if_neg (by decide), if_neg (by decide), if_neg (by decide), if_neg (by decide), if_pos rfl]
          exact a2
        by_cases k52_8 : w = 8
        · rw [k52_8]
          refine e_tswIn (t := 169) dX11_of_52 (by decide) (by decide) rfl (by decide) ?_
          refine e_aload_n dX11_of_169 rfl 0 rfl ?_
          refine e_iload_n dX11_of_170 rfl 1 rfl ?_
          refine e_callVi dX11_of_171 cvX11_196 rfl tt_127 rfl (c11_local hp hV hk hF1 hR1) (Nat.le_of_ble_eq_true rfl) (Nat.le_refl _) (Nat.le_refl _) rfl (Nat.le_of_ble_eq_true rfl) (fun r171 s171 m171 q171 => ?_)
          obtain ⟨q171, b1, b2⟩ := q171
          rw [b2]
          refine e_reti dX11_of_174 ev_nwi (Nat.le_refl _) (Nat.le_refl _) ?_
          refine ⟨?_, f1.tr b1.S, rfl⟩
          rw [nof_yes hV hk]
          unfold nofk
          rw [if_neg (by decide), if_neg (by decide), if_neg (by decide), if_neg (by decide), if_neg (by decide), if_neg (by decide), if_neg (by decide), if_neg (by decide), if_pos rfl]
          exact q171
        refine e_tswOut (t := 175) dX11_of_52 (by
      have a0 := i32_ne k52_0
      have b0 : (0 : Int32).toInt = 0 := by decide
      have a1 := i32_ne k52_1
      have b1 : (1 : Int32).toInt = 1 := by decide
      have a2 := i32_ne k52_2
      have b2 : (2 : Int32).toInt = 2 := by decide
      have a3 := i32_ne k52_3
      have b3 : (3 : Int32).toInt = 3 := by decide
      have a4 := i32_ne k52_4
      have b4 : (4 : Int32).toInt = 4 := by decide
      have a5 := i32_ne k52_5
      have b5 : (5 : Int32).toInt = 5 := by decide
      have a6 := i32_ne k52_6
      have b6 : (6 : Int32).toInt = 6 := by decide
      have a7 := i32_ne k52_7
      have b7 : (7 : Int32).toInt = 7 := by decide
      have a8 := i32_ne k52_8
      have b8 : (8 : Int32).toInt = 8 := by decide
      omega) (by decide) ?_
        refine e_iconst (v := (-1)) dX11_of_175 rfl ?_
        refine e_reti dX11_of_176 ev_nwi (Nat.le_refl _) (Nat.le_refl _) ?_
        refine ⟨?_, f1, rfl⟩
        rw [nof_yes hV hk]
        unfold nofk
        rw [if_neg k52_0, if_neg k52_1, if_neg k52_2, if_neg k52_3, if_neg k52_4, if_neg k52_5, if_neg k52_6, if_neg k52_7, if_neg k52_8]
        exact (if_neg h18).symm
    · skip
      rw [q15, bI_eq0] at h18
      have hP2 := Classical.not_not.mp h18
      obtain ⟨c, hc, hw⟩ := i_1014 hP2.1 hP2.2
      subst hw
      refine e_aload_n dX11_of_21 rfl 0 rfl ?_
      refine e_getR dX11_of_22 lkX11_36 tt_127 rfl ?_
      refine e_iconst (v := 5) dX11_of_25 rfl ?_
      refine e_iload_n dX11_of_26 rfl 1 rfl ?_
      refine e_imul dX11_of_27 ?_
      refine e_iload_n dX11_of_28 rfl 2 rfl ?_
      refine e_iadd dX11_of_29 ?_
      refine e_bipush (v := 10) dX11_of_30 rfl ?_
      refine e_isub dX11_of_32 ?_
      rw [i_lin5, show nI (5 * k + (10 + c)) - 10 = nI (5 * k + c) from (i_sub (a := 5 * k + (10 + c)) (b := 10) (by omega)).trans (by rw [show 5 * k + (10 + c) - 10 = 5 * k + c by omega])]
      refine e_iald dX11_of_33 tt_136 (vp_in_nI (by omega) (by decide)) ?_
      refine e_reti dX11_of_34 ev_nwi (Nat.le_refl _) (Nat.le_refl _) ?_
      refine ⟨?_, FrS.rf, rfl⟩
      rw [nof_yes hV hk, nofk_form hc, i_cl (by omega)]
      exact (hR.2.2.2.1 k hk).2.2.2.2.2.1 c hc
  · skip
    rw [q2] at h5
    refine e_iconst (v := (-1)) dX11_of_8 rfl ?_
    refine e_reti dX11_of_9 ev_nwi (Nat.le_refl _) (Nat.le_refl _) ?_
    exact ⟨(if_neg (bI_eq0.mp h5)).symm, FrS.rf, rfl⟩
