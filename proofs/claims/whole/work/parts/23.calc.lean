abbrev nN (x : Int32) : Prop := 0 ≤ x ∧ x ≤ 15
def ncan (w a b : Int32) : Prop :=
  if w = 0 then nN a ∧ nN b else if w = 1 then nN a ∧ nN b else if w = 2 then nN a ∧ nN b ∧ ¬ b = 0 else if w = 3 then nN a ∧ 0 ≤ b ∧ b ≤ 99 else if w = 4 then 0 ≤ a ∧ a ≤ 14 else nN a ∧ ¬ a = 0
noncomputable def ncalc (p : Nat) (w a b : Int32) : Int32 :=
  @ite _ (0 ≤ w ∧ w ≤ 5) (Classical.propDecidable _) (@ite _ (ncan w a b) (Classical.propDecidable _)
    (if w = 0 then a ^^^ b else if w = 1 then nI (gmul p a.toNatClampNeg b.toNatClampNeg) else if w = 2 then nI (gdiv p a.toNatClampNeg b.toNatClampNeg) else if w = 3 then nI (gpow p a.toNatClampNeg b.toNatClampNeg) else
     if w = 4 then nI (gexp p a.toNatClampNeg) else nI (glog p a.toNatClampNeg)) (-2)) (-1)
theorem ncalc_1 {p : Nat} {w a b : Int32} (h : ¬ (0 ≤ w ∧ w ≤ 5)) : ncalc p w a b = -1 := if_neg h
theorem ncalc_2 {p : Nat} {w a b : Int32} (h : 0 ≤ w ∧ w ≤ 5) (h2 : ¬ ncan w a b) : ncalc p w a b = -2 := (if_pos h).trans (if_neg h2)
theorem ncalc_3 {p : Nat} {w a b : Int32} (h : 0 ≤ w ∧ w ≤ 5) (h2 : ncan w a b) : ncalc p w a b = (if w = 0 then a ^^^ b else if w = 1 then nI (gmul p a.toNatClampNeg b.toNatClampNeg) else if w = 2 then nI (gdiv p a.toNatClampNeg b.toNatClampNeg) else if w = 3 then nI (gpow p a.toNatClampNeg b.toNatClampNeg) else
     if w = 4 then nI (gexp p a.toNatClampNeg) else nI (glog p a.toNatClampNeg)) := (if_pos h).trans (if_pos h2)

set_option maxRecDepth 100000 in
set_option maxHeartbeats 1000000 in
theorem c10_canCalc {w a b : Int32} {σ : ex_S} {μ : ex_L} : Ci 3 yX10_canCalc cX10_canCalc 3 (some .boolean) [.int w, .int a, .int b] TT σ μ (fun z' σ' μ' => ((z' = 1 ∧ ncan w a b) ∨ (z' = 0 ∧ ¬ ncan w a b)) ∧ σ' = σ ∧ μ' = μ) := by
  refine Cl_of (by decide +kernel) (Nat.le_of_ble_eq_true rfl) ?_
  show Ev RX10 cX10_canCalc 3 3 0 0 "canCalc" (some .boolean) ev_ext _ _ 0 0 0 [(0, .int w), (1, .int a), (2, .int b)] [] TT σ μ
  refine e_iload_n dX10_canCalc_0 rfl 0 rfl ?_
  by_cases k1_0 : w = 0
  · rw [k1_0]
    refine e_tswIn (t := 36) dX10_canCalc_1 (by decide) (by decide) rfl (by decide) ?_
    skip
    refine e_iload_n dX10_canCalc_36 rfl 1 rfl ?_
    refine e_callSi dX10_canCalc_37 cvX10_121 rfl (c10_isNumber a) (Nat.le_of_ble_eq_true rfl) (Nat.le_refl _) (Nat.le_refl _) rfl (Nat.le_of_ble_eq_true rfl) (fun r37 s37 m37 q37 => ?_)
    obtain ⟨q37, e37, g37⟩ := q37
    rw [e37, g37]
    clear e37 g37 s37 m37
    refine e_if_eq (t := 54) dX10_canCalc_40 (by decide) (fun h40 => ?_) (fun h40 => ?_)
    · skip
      rw [q37, bI_eq0] at h40
      refine e_iconst (v := 0) dX10_canCalc_54 rfl ?_
      refine e_reti dX10_canCalc_55 ev_nw0 (Nat.le_refl _) (Nat.le_refl _) ?_
      refine ⟨Or.inr ⟨rfl, fun q => ?_⟩, rfl, rfl⟩
      unfold ncan at q
      rw [if_pos rfl] at q
      exact h40 q.1
    · skip
      rw [q37, bI_eq0] at h40
      have hA := Classical.not_not.mp h40
      refine e_iload_n dX10_canCalc_43 rfl 2 rfl ?_
      refine e_callSi dX10_canCalc_44 cvX10_121 rfl (c10_isNumber b) (Nat.le_of_ble_eq_true rfl) (Nat.le_refl _) (Nat.le_refl _) rfl (Nat.le_of_ble_eq_true rfl) (fun r44 s44 m44 q44 => ?_)
      obtain ⟨q44, e44, g44⟩ := q44
      rw [e44, g44]
      clear e44 g44 s44 m44
      refine e_if_eq (t := 54) dX10_canCalc_47 (by decide) (fun h47 => ?_) (fun h47 => ?_)
      · skip
        rw [q44, bI_eq0] at h47
        refine e_iconst (v := 0) dX10_canCalc_54 rfl ?_
        refine e_reti dX10_canCalc_55 ev_nw0 (Nat.le_refl _) (Nat.le_refl _) ?_
        refine ⟨Or.inr ⟨rfl, fun q => ?_⟩, rfl, rfl⟩
        unfold ncan at q
        rw [if_pos rfl] at q
        exact h47 q.2
      · skip
        rw [q44, bI_eq0] at h47
        have hB := Classical.not_not.mp h47
        refine e_iconst (v := 1) dX10_canCalc_50 rfl ?_
        refine e_goto (t := 55) dX10_canCalc_51 (by decide) ?_
        refine e_reti dX10_canCalc_55 ev_nw1 (Nat.le_refl _) (Nat.le_refl _) ?_
        refine ⟨Or.inl ⟨rfl, ?_⟩, rfl, rfl⟩
        unfold ncan
        rw [if_pos rfl]
        exact ⟨hA, hB⟩
  by_cases k1_1 : w = 1
  · rw [k1_1]
    refine e_tswIn (t := 36) dX10_canCalc_1 (by decide) (by decide) rfl (by decide) ?_
    skip
    refine e_iload_n dX10_canCalc_36 rfl 1 rfl ?_
    refine e_callSi dX10_canCalc_37 cvX10_121 rfl (c10_isNumber a) (Nat.le_of_ble_eq_true rfl) (Nat.le_refl _) (Nat.le_refl _) rfl (Nat.le_of_ble_eq_true rfl) (fun r37 s37 m37 q37 => ?_)
    obtain ⟨q37, e37, g37⟩ := q37
    rw [e37, g37]
    clear e37 g37 s37 m37
    refine e_if_eq (t := 54) dX10_canCalc_40 (by decide) (fun h40 => ?_) (fun h40 => ?_)
    · skip
      rw [q37, bI_eq0] at h40
      refine e_iconst (v := 0) dX10_canCalc_54 rfl ?_
      refine e_reti dX10_canCalc_55 ev_nw0 (Nat.le_refl _) (Nat.le_refl _) ?_
      refine ⟨Or.inr ⟨rfl, fun q => ?_⟩, rfl, rfl⟩
      unfold ncan at q
      rw [if_neg (by decide), if_pos rfl] at q
      exact h40 q.1
    · skip
      rw [q37, bI_eq0] at h40
      have hA := Classical.not_not.mp h40
      refine e_iload_n dX10_canCalc_43 rfl 2 rfl ?_
      refine e_callSi dX10_canCalc_44 cvX10_121 rfl (c10_isNumber b) (Nat.le_of_ble_eq_true rfl) (Nat.le_refl _) (Nat.le_refl _) rfl (Nat.le_of_ble_eq_true rfl) (fun r44 s44 m44 q44 => ?_)
      obtain ⟨q44, e44, g44⟩ := q44
      rw [e44, g44]
      clear e44 g44 s44 m44
      refine e_if_eq (t := 54) dX10_canCalc_47 (by decide) (fun h47 => ?_) (fun h47 => ?_)
      · skip
        rw [q44, bI_eq0] at h47
        refine e_iconst (v := 0) dX10_canCalc_54 rfl ?_
        refine e_reti dX10_canCalc_55 ev_nw0 (Nat.le_refl _) (Nat.le_refl _) ?_
        refine ⟨Or.inr ⟨rfl, fun q => ?_⟩, rfl, rfl⟩
        unfold ncan at q
        rw [if_neg (by decide), if_pos rfl] at q
        exact h47 q.2
      · skip
        rw [q44, bI_eq0] at h47
        have hB := Classical.not_not.mp h47
        refine e_iconst (v := 1) dX10_canCalc_50 rfl ?_
        refine e_goto (t := 55) dX10_canCalc_51 (by decide) ?_
        refine e_reti dX10_canCalc_55 ev_nw1 (Nat.le_refl _) (Nat.le_refl _) ?_
        refine ⟨Or.inl ⟨rfl, ?_⟩, rfl, rfl⟩
        unfold ncan
        rw [if_neg (by decide), if_pos rfl]
        exact ⟨hA, hB⟩
  by_cases k1_2 : w = 2
  · rw [k1_2]
    refine e_tswIn (t := 56) dX10_canCalc_1 (by decide) (by decide) rfl (by decide) ?_
    refine e_iload_n dX10_canCalc_56 rfl 1 rfl ?_
    refine e_callSi dX10_canCalc_57 cvX10_121 rfl (c10_isNumber a) (Nat.le_of_ble_eq_true rfl) (Nat.le_refl _) (Nat.le_refl _) rfl (Nat.le_of_ble_eq_true rfl) (fun r57 s57 m57 q57 => ?_)
    obtain ⟨q57, e57, g57⟩ := q57
    rw [e57, g57]
    clear e57 g57 s57 m57
    refine e_if_eq (t := 78) dX10_canCalc_60 (by decide) (fun h60 => ?_) (fun h60 => ?_)
    · skip
      rw [q57, bI_eq0] at h60
      refine e_iconst (v := 0) dX10_canCalc_78 rfl ?_
      refine e_reti dX10_canCalc_79 ev_nw0 (Nat.le_refl _) (Nat.le_refl _) ?_
      refine ⟨Or.inr ⟨rfl, fun q => ?_⟩, rfl, rfl⟩
      unfold ncan at q
      rw [if_neg (by decide), if_neg (by decide), if_pos rfl] at q
      exact h60 q.1
    · skip
      rw [q57, bI_eq0] at h60
      have hA := Classical.not_not.mp h60
      refine e_iload_n dX10_canCalc_63 rfl 2 rfl ?_
      refine e_callSi dX10_canCalc_64 cvX10_121 rfl (c10_isNumber b) (Nat.le_of_ble_eq_true rfl) (Nat.le_refl _) (Nat.le_refl _) rfl (Nat.le_of_ble_eq_true rfl) (fun r64 s64 m64 q64 => ?_)
      obtain ⟨q64, e64, g64⟩ := q64
      rw [e64, g64]
      clear e64 g64 s64 m64
      refine e_if_eq (t := 78) dX10_canCalc_67 (by decide) (fun h67 => ?_) (fun h67 => ?_)
      · skip
        rw [q64, bI_eq0] at h67
        refine e_iconst (v := 0) dX10_canCalc_78 rfl ?_
        refine e_reti dX10_canCalc_79 ev_nw0 (Nat.le_refl _) (Nat.le_refl _) ?_
        refine ⟨Or.inr ⟨rfl, fun q => ?_⟩, rfl, rfl⟩
        unfold ncan at q
        rw [if_neg (by decide), if_neg (by decide), if_pos rfl] at q
        exact h67 q.2.1
      · skip
        rw [q64, bI_eq0] at h67
        have hB := Classical.not_not.mp h67
        refine e_iload_n dX10_canCalc_70 rfl 2 rfl ?_
        refine e_if_eq (t := 78) dX10_canCalc_71 (by decide) (fun h71 => ?_) (fun h71 => ?_)
        · skip
          skip
          refine e_iconst (v := 0) dX10_canCalc_78 rfl ?_
          refine e_reti dX10_canCalc_79 ev_nw0 (Nat.le_refl _) (Nat.le_refl _) ?_
          refine ⟨Or.inr ⟨rfl, fun q => ?_⟩, rfl, rfl⟩
          unfold ncan at q
          rw [if_neg (by decide), if_neg (by decide), if_pos rfl] at q
          exact q.2.2 h71
        · skip
          refine e_iconst (v := 1) dX10_canCalc_74 rfl ?_
          refine e_goto (t := 79) dX10_canCalc_75 (by decide) ?_
          refine e_reti dX10_canCalc_79 ev_nw1 (Nat.le_refl _) (Nat.le_refl _) ?_
          refine ⟨Or.inl ⟨rfl, ?_⟩, rfl, rfl⟩
          unfold ncan
          rw [if_neg (by decide), if_neg (by decide), if_pos rfl]
          exact ⟨hA, hB, h71⟩
  by_cases k1_3 : w = 3
  · rw [k1_3]
    refine e_tswIn (t := 80) dX10_canCalc_1 (by decide) (by decide) rfl (by decide) ?_
    refine e_iload_n dX10_canCalc_80 rfl 1 rfl ?_
    refine e_callSi dX10_canCalc_81 cvX10_121 rfl (c10_isNumber a) (Nat.le_of_ble_eq_true rfl) (Nat.le_refl _) (Nat.le_refl _) rfl (Nat.le_of_ble_eq_true rfl) (fun r81 s81 m81 q81 => ?_)
    obtain ⟨q81, e81, g81⟩ := q81
    rw [e81, g81]
    clear e81 g81 s81 m81
    refine e_if_eq (t := 101) dX10_canCalc_84 (by decide) (fun h84 => ?_) (fun h84 => ?_)
    · skip
      rw [q81, bI_eq0] at h84
      refine e_iconst (v := 0) dX10_canCalc_101 rfl ?_
      refine e_reti dX10_canCalc_102 ev_nw0 (Nat.le_refl _) (Nat.le_refl _) ?_
      refine ⟨Or.inr ⟨rfl, fun q => ?_⟩, rfl, rfl⟩
      unfold ncan at q
      rw [if_neg (by decide), if_neg (by decide), if_neg (by decide), if_pos rfl] at q
      exact h84 q.1
    · skip
      rw [q81, bI_eq0] at h84
      have hA := Classical.not_not.mp h84
      refine e_iload_n dX10_canCalc_87 rfl 2 rfl ?_
      refine e_if_lt (t := 101) dX10_canCalc_88 (by decide) (fun h88 => ?_) (fun h88 => ?_)
      · skip
        skip
        refine e_iconst (v := 0) dX10_canCalc_101 rfl ?_
        refine e_reti dX10_canCalc_102 ev_nw0 (Nat.le_refl _) (Nat.le_refl _) ?_
        refine ⟨Or.inr ⟨rfl, fun q => ?_⟩, rfl, rfl⟩
        unfold ncan at q
        rw [if_neg (by decide), if_neg (by decide), if_neg (by decide), if_pos rfl] at q
        have a1 := Int32.lt_iff_toInt_lt.mp h88
        have a2 := Int32.le_iff_toInt_le.mp q.2.1
        omega
      · skip
        refine e_iload_n dX10_canCalc_91 rfl 2 rfl ?_
        refine e_bipush (v := 99) dX10_canCalc_92 rfl ?_
        refine e_icmp_gt (t := 101) dX10_canCalc_94 (by decide) (fun h94 => ?_) (fun h94 => ?_)
        · skip
          skip
          refine e_iconst (v := 0) dX10_canCalc_101 rfl ?_
          refine e_reti dX10_canCalc_102 ev_nw0 (Nat.le_refl _) (Nat.le_refl _) ?_
          refine ⟨Or.inr ⟨rfl, fun q => ?_⟩, rfl, rfl⟩
          unfold ncan at q
          rw [if_neg (by decide), if_neg (by decide), if_neg (by decide), if_pos rfl] at q
          have a1 := Int32.lt_iff_toInt_lt.mp h94
          have a2 := Int32.le_iff_toInt_le.mp q.2.2
          omega
        · skip
          refine e_iconst (v := 1) dX10_canCalc_97 rfl ?_
          refine e_goto (t := 102) dX10_canCalc_98 (by decide) ?_
          refine e_reti dX10_canCalc_102 ev_nw1 (Nat.le_refl _) (Nat.le_refl _) ?_
          refine ⟨Or.inl ⟨rfl, ?_⟩, rfl, rfl⟩
          unfold ncan
          rw [if_neg (by decide), if_neg (by decide), if_neg (by decide), if_pos rfl]
          exact ⟨hA, fa_of_nlt h88, fa_of_nlt h94⟩
  by_cases k1_4 : w = 4
  · rw [k1_4]
    refine e_tswIn (t := 103) dX10_canCalc_1 (by decide) (by decide) rfl (by decide) ?_
    refine e_iload_n dX10_canCalc_103 rfl 1 rfl ?_
    refine e_if_lt (t := 117) dX10_canCalc_104 (by decide) (fun h104 => ?_) (fun h104 => ?_)
    · skip
      skip
      refine e_iconst (v := 0) dX10_canCalc_117 rfl ?_
      refine e_reti dX10_canCalc_118 ev_nw0 (Nat.le_refl _) (Nat.le_refl _) ?_
      refine ⟨Or.inr ⟨rfl, fun q => ?_⟩, rfl, rfl⟩
      unfold ncan at q
      rw [if_neg (by decide), if_neg (by decide), if_neg (by decide), if_neg (by decide), if_pos rfl] at q
      have a1 := Int32.lt_iff_toInt_lt.mp h104
      have a2 := Int32.le_iff_toInt_le.mp q.1
      omega
    · skip
      refine e_iload_n dX10_canCalc_107 rfl 1 rfl ?_
      refine e_bipush (v := 14) dX10_canCalc_108 rfl ?_
      refine e_icmp_gt (t := 117) dX10_canCalc_110 (by decide) (fun h110 => ?_) (fun h110 => ?_)
      · skip
        skip
        refine e_iconst (v := 0) dX10_canCalc_117 rfl ?_
        refine e_reti dX10_canCalc_118 ev_nw0 (Nat.le_refl _) (Nat.le_refl _) ?_
        refine ⟨Or.inr ⟨rfl, fun q => ?_⟩, rfl, rfl⟩
        unfold ncan at q
        rw [if_neg (by decide), if_neg (by decide), if_neg (by decide), if_neg (by decide), if_pos rfl] at q
        have a1 := Int32.lt_iff_toInt_lt.mp h110
        have a2 := Int32.le_iff_toInt_le.mp q.2
        omega
      · skip
        refine e_iconst (v := 1) dX10_canCalc_113 rfl ?_
        refine e_goto (t := 118) dX10_canCalc_114 (by decide) ?_
        refine e_reti dX10_canCalc_118 ev_nw1 (Nat.le_refl _) (Nat.le_refl _) ?_
        refine ⟨Or.inl ⟨rfl, ?_⟩, rfl, rfl⟩
        unfold ncan
        rw [if_neg (by decide), if_neg (by decide), if_neg (by decide), if_neg (by decide), if_pos rfl]
        exact ⟨fa_of_nlt h104, fa_of_nlt h110⟩
  refine e_tswOut (t := 119) dX10_canCalc_1 (by
      have a0 := i32_ne k1_0
      have b0 : (0 : Int32).toInt = 0 := by decide
      have a1 := i32_ne k1_1
      have b1 : (1 : Int32).toInt = 1 := by decide
      have a2 := i32_ne k1_2
      have b2 : (2 : Int32).toInt = 2 := by decide
      have a3 := i32_ne k1_3
      have b3 : (3 : Int32).toInt = 3 := by decide
      have a4 := i32_ne k1_4
      have b4 : (4 : Int32).toInt = 4 := by decide
      omega) (by decide) ?_
  refine e_iload_n dX10_canCalc_119 rfl 1 rfl ?_
  refine e_callSi dX10_canCalc_120 cvX10_121 rfl (c10_isNumber a) (Nat.le_of_ble_eq_true rfl) (Nat.le_refl _) (Nat.le_refl _) rfl (Nat.le_of_ble_eq_true rfl) (fun r120 s120 m120 q120 => ?_)
  obtain ⟨q120, e120, g120⟩ := q120
  rw [e120, g120]
  clear e120 g120 s120 m120
  refine e_if_eq (t := 134) dX10_canCalc_123 (by decide) (fun h123 => ?_) (fun h123 => ?_)
  · skip
    rw [q120, bI_eq0] at h123
    refine e_iconst (v := 0) dX10_canCalc_134 rfl ?_
    refine e_reti dX10_canCalc_135 ev_nw0 (Nat.le_refl _) (Nat.le_refl _) ?_
    refine ⟨Or.inr ⟨rfl, fun q => ?_⟩, rfl, rfl⟩
    unfold ncan at q
    rw [if_neg k1_0, if_neg k1_1, if_neg k1_2, if_neg k1_3, if_neg k1_4] at q
    exact h123 q.1
  · skip
    rw [q120, bI_eq0] at h123
    have hA := Classical.not_not.mp h123
    refine e_iload_n dX10_canCalc_126 rfl 1 rfl ?_
    refine e_if_eq (t := 134) dX10_canCalc_127 (by decide) (fun h127 => ?_) (fun h127 => ?_)
    · skip
      skip
      refine e_iconst (v := 0) dX10_canCalc_134 rfl ?_
      refine e_reti dX10_canCalc_135 ev_nw0 (Nat.le_refl _) (Nat.le_refl _) ?_
      refine ⟨Or.inr ⟨rfl, fun q => ?_⟩, rfl, rfl⟩
      unfold ncan at q
      rw [if_neg k1_0, if_neg k1_1, if_neg k1_2, if_neg k1_3, if_neg k1_4] at q
      exact q.2 h127
    · skip
      refine e_iconst (v := 1) dX10_canCalc_130 rfl ?_
      refine e_goto (t := 135) dX10_canCalc_131 (by decide) ?_
      refine e_reti dX10_canCalc_135 ev_nw1 (Nat.le_refl _) (Nat.le_refl _) ?_
      refine ⟨Or.inl ⟨rfl, ?_⟩, rfl, rfl⟩
      unfold ncan
      rw [if_neg k1_0, if_neg k1_1, if_neg k1_2, if_neg k1_3, if_neg k1_4]
      exact ⟨hA, h127⟩

set_option maxRecDepth 100000 in
set_option maxHeartbeats 1000000 in
theorem c10_calc {p : Nat} (hp : gP p) {w a b : Int32} {σ : ex_S} {μ : ex_L}(hF : FC σ p) : Ci 5 yX10_calc cX10_calc 4 (some .int) [.ref 0, .int w, .int a, .int b] TT σ μ (fun z' σ' μ' => z' = ncalc p w a b ∧ σ' = σ ∧ μ' = μ) := by
  refine Cl_of (by decide +kernel) (Nat.le_of_ble_eq_true rfl) ?_
  show Ev RX10 cX10_calc 4 5 0 0 "calc" (some .int) ev_ext _ _ 0 0 0 [(0, .ref 0), (1, .int w), (2, .int a), (3, .int b)] [] TT σ μ
  refine e_iload_n dX10_calc_0 rfl 1 rfl ?_
  refine e_if_lt (t := 9) dX10_calc_1 (by decide) (fun h1 => ?_) (fun h1 => ?_)
  · skip
    skip
    refine e_iconst (v := (-1)) dX10_calc_9 rfl ?_
    refine e_reti dX10_calc_10 ev_nwi (Nat.le_refl _) (Nat.le_refl _) ?_
    exact ⟨(ncalc_1 (fun q => by
      have a1 := Int32.lt_iff_toInt_lt.mp h1
      have a2 := Int32.le_iff_toInt_le.mp q.1
      omega)).symm, rfl, rfl⟩
  · skip
    refine e_iload_n dX10_calc_4 rfl 1 rfl ?_
    refine e_iconst (v := 5) dX10_calc_5 rfl ?_
    refine e_icmp_le (t := 11) dX10_calc_6 (by decide) (fun h6 => ?_) (fun h6 => ?_)
    · skip
      have hw : 0 ≤ w ∧ w ≤ 5 := ⟨fa_of_nlt h1, h6⟩
      refine e_iload_n dX10_calc_11 rfl 1 rfl ?_
      refine e_iload_n dX10_calc_12 rfl 2 rfl ?_
      refine e_iload_n dX10_calc_13 rfl 3 rfl ?_
      refine e_callSi dX10_calc_14 cvX10_103 rfl (c10_canCalc (w := w) (a := a) (b := b)) (Nat.le_of_ble_eq_true rfl) (Nat.le_refl _) (Nat.le_refl _) rfl (Nat.le_of_ble_eq_true rfl) (fun r14 s14 m14 q14 => ?_)
      obtain ⟨q14, e14, g14⟩ := q14
      rw [e14, g14]
      clear e14 g14 s14 m14
      refine e_if_ne (t := 23) dX10_calc_17 (by decide) (fun h17 => ?_) (fun h17 => ?_)
      · skip
        have hcan0 : ncan w a b := by
          rcases q14 with ⟨_, q⟩ | ⟨q, _⟩
          · exact q
          · exact absurd q h17
        have hcan := hcan0
        refine e_iload_n dX10_calc_23 rfl 1 rfl ?_
        by_cases k24_0 : w = 0
        · rw [k24_0]
          refine e_tswIn (t := 60) dX10_calc_24 (by decide) (by decide) rfl (by decide) ?_
          rw [k24_0] at hcan0
          refine e_iload_n dX10_calc_60 rfl 2 rfl ?_
          refine e_iload_n dX10_calc_61 rfl 3 rfl ?_
          refine e_ixor dX10_calc_62 ?_
          refine e_reti dX10_calc_63 ev_nwi (Nat.le_refl _) (Nat.le_refl _) ?_
          refine ⟨?_, rfl, rfl⟩
          rw [ncalc_3 (by decide) hcan0]
          rw [if_pos rfl]
          
        by_cases k24_1 : w = 1
        · rw [k24_1]
          refine e_tswIn (t := 64) dX10_calc_24 (by decide) (by decide) rfl (by decide) ?_
          rw [k24_1] at hcan hcan0
          unfold ncan at hcan
          rw [if_neg (by decide), if_pos rfl] at hcan
          obtain ⟨i, hi, rfl⟩ := i_of (x := a) (m := 15) (by omega) hcan.1.1 (show _ ≤ nI (15) from hcan.1.2)
          obtain ⟨j, hj, rfl⟩ := i_of (x := b) (m := 15) (by omega) hcan.2.1 (show _ ≤ nI (15) from hcan.2.2)
          refine e_aload_n dX10_calc_64 rfl 0 rfl ?_
          refine e_getR dX10_calc_65 lkX10_12 tt_0 rfl ?_
          refine e_iload_n dX10_calc_68 rfl 2 rfl ?_
          refine e_iload_n dX10_calc_69 rfl 3 rfl ?_
          refine e_callVi dX10_calc_70 cvX10_107 rfl tt_1 rfl (c4_productS hp (a := i) (c := j) (by omega) (by omega) hF) (Nat.le_of_ble_eq_true rfl) (Nat.le_refl _) (Nat.le_refl _) rfl (Nat.le_of_ble_eq_true rfl) (fun r70 s70 m70 q70 => ?_)
          obtain ⟨q70, e70, g70⟩ := q70
          rw [e70, g70]
          clear e70 g70 s70 m70
          refine e_reti dX10_calc_73 ev_nwi (Nat.le_refl _) (Nat.le_refl _) ?_
          refine ⟨?_, rfl, rfl⟩
          rw [ncalc_3 (by decide) hcan0]
          rw [if_neg (by decide), if_pos rfl]
          rw [i_cl (by omega), i_cl (by omega)]
          exact q70
        by_cases k24_2 : w = 2
        · rw [k24_2]
          refine e_tswIn (t := 74) dX10_calc_24 (by decide) (by decide) rfl (by decide) ?_
          rw [k24_2] at hcan hcan0
          unfold ncan at hcan
          rw [if_neg (by decide), if_neg (by decide), if_pos rfl] at hcan
          obtain ⟨i, hi, rfl⟩ := i_of (x := a) (m := 15) (by omega) hcan.1.1 (show _ ≤ nI (15) from hcan.1.2)
          obtain ⟨j, hj, rfl⟩ := i_of (x := b) (m := 15) (by omega) hcan.2.1.1 (show _ ≤ nI (15) from hcan.2.1.2)
          refine e_aload_n dX10_calc_74 rfl 0 rfl ?_
          refine e_getR dX10_calc_75 lkX10_12 tt_0 rfl ?_
          refine e_iload_n dX10_calc_78 rfl 2 rfl ?_
          refine e_aload_n dX10_calc_79 rfl 0 rfl ?_
          refine e_getR dX10_calc_80 lkX10_12 tt_0 rfl ?_
          refine e_iload_n dX10_calc_83 rfl 3 rfl ?_
          refine e_callVi dX10_calc_84 cvX10_111 rfl tt_1 rfl (c4_inverse (nI j)) (Nat.le_of_ble_eq_true rfl) (Nat.le_refl _) (Nat.le_refl _) rfl (Nat.le_of_ble_eq_true rfl) (fun r84 s84 m84 q84 => ?_)
          obtain ⟨q84, e84, g84⟩ := q84
          rw [e84, g84]
          clear e84 g84 s84 m84
          rw [q84, if_pos ⟨i_nn (by omega), (i_le (by omega) (by decide)).mpr (show j ≤ 15 by omega)⟩, i_cl (by omega), hF.2.2 j (by omega)]
          refine e_callVi dX10_calc_87 cvX10_107 rfl tt_1 rfl (c4_productS hp (a := i) (c := ginv p j) (by omega) (ginv_ok hp j (by omega)).1 hF) (Nat.le_of_ble_eq_true rfl) (Nat.le_refl _) (Nat.le_refl _) rfl (Nat.le_of_ble_eq_true rfl) (fun r87 s87 m87 q87 => ?_)
          obtain ⟨q87, e87, g87⟩ := q87
          rw [e87, g87]
          clear e87 g87 s87 m87
          refine e_reti dX10_calc_90 ev_nwi (Nat.le_refl _) (Nat.le_refl _) ?_
          refine ⟨?_, rfl, rfl⟩
          rw [ncalc_3 (by decide) hcan0]
          rw [if_neg (by decide), if_neg (by decide), if_pos rfl]
          rw [i_cl (by omega), i_cl (by omega)]
          exact q87
        by_cases k24_3 : w = 3
        · rw [k24_3]
          refine e_tswIn (t := 91) dX10_calc_24 (by decide) (by decide) rfl (by decide) ?_
          rw [k24_3] at hcan hcan0
          unfold ncan at hcan
          rw [if_neg (by decide), if_neg (by decide), if_neg (by decide), if_pos rfl] at hcan
          obtain ⟨i, hi, rfl⟩ := i_of (x := a) (m := 15) (by omega) hcan.1.1 (show _ ≤ nI (15) from hcan.1.2)
          obtain ⟨j, hj, rfl⟩ := i_of (x := b) (m := 99) (by omega) hcan.2.1 (show _ ≤ nI (99) from hcan.2.2)
          refine e_aload_n dX10_calc_91 rfl 0 rfl ?_
          refine e_getR dX10_calc_92 lkX10_12 tt_0 rfl ?_
          refine e_iload_n dX10_calc_95 rfl 2 rfl ?_
          refine e_iload_n dX10_calc_96 rfl 3 rfl ?_
          refine e_callVi dX10_calc_97 cvX10_115 rfl tt_1 rfl (c4_power hp (a := i) (n := j) (by omega) (by omega) hF) (Nat.le_of_ble_eq_true rfl) (Nat.le_refl _) (Nat.le_refl _) rfl (Nat.le_of_ble_eq_true rfl) (fun r97 s97 m97 q97 => ?_)
          obtain ⟨q97, e97, g97⟩ := q97
          rw [e97, g97]
          clear e97 g97 s97 m97
          refine e_reti dX10_calc_100 ev_nwi (Nat.le_refl _) (Nat.le_refl _) ?_
          refine ⟨?_, rfl, rfl⟩
          rw [ncalc_3 (by decide) hcan0]
          rw [if_neg (by decide), if_neg (by decide), if_neg (by decide), if_pos rfl]
          rw [i_cl (by omega), i_cl (by omega)]
          exact q97
        by_cases k24_4 : w = 4
        · rw [k24_4]
          refine e_tswIn (t := 101) dX10_calc_24 (by decide) (by decide) rfl (by decide) ?_
          rw [k24_4] at hcan hcan0
          unfold ncan at hcan
          rw [if_neg (by decide), if_neg (by decide), if_neg (by decide), if_neg (by decide), if_pos rfl] at hcan
          obtain ⟨i, hi, rfl⟩ := i_of (x := a) (m := 14) (by omega) hcan.1 (show _ ≤ nI (14) from hcan.2)
          refine e_aload_n dX10_calc_101 rfl 0 rfl ?_
          refine e_getR dX10_calc_102 lkX10_12 tt_0 rfl ?_
          refine e_aload_n dX10_calc_105 rfl 0 rfl ?_
          refine e_getR dX10_calc_106 lkX10_12 tt_0 rfl ?_
          refine e_getI dX10_calc_109 lkX10_100 tt_1 rfl ?_
          refine e_iload_n dX10_calc_112 rfl 2 rfl ?_
          rw [hF.2.1]
          refine e_callVi dX10_calc_113 cvX10_115 rfl tt_1 rfl (c4_power hp (a := ggen p) (n := i) (ggen_ok hp).2.1 (by omega) hF) (Nat.le_of_ble_eq_true rfl) (Nat.le_refl _) (Nat.le_refl _) rfl (Nat.le_of_ble_eq_true rfl) (fun r113 s113 m113 q113 => ?_)
          obtain ⟨q113, e113, g113⟩ := q113
          rw [e113, g113]
          clear e113 g113 s113 m113
          refine e_reti dX10_calc_116 ev_nwi (Nat.le_refl _) (Nat.le_refl _) ?_
          refine ⟨?_, rfl, rfl⟩
          rw [ncalc_3 (by decide) hcan0]
          rw [if_neg (by decide), if_neg (by decide), if_neg (by decide), if_neg (by decide), if_pos rfl]
          rw [i_cl (by omega)]
          exact q113
        refine e_tswOut (t := 117) dX10_calc_24 (by
      have a0 := i32_ne k24_0
      have b0 : (0 : Int32).toInt = 0 := by decide
      have a1 := i32_ne k24_1
      have b1 : (1 : Int32).toInt = 1 := by decide
      have a2 := i32_ne k24_2
      have b2 : (2 : Int32).toInt = 2 := by decide
      have a3 := i32_ne k24_3
      have b3 : (3 : Int32).toInt = 3 := by decide
      have a4 := i32_ne k24_4
      have b4 : (4 : Int32).toInt = 4 := by decide
      omega) (by decide) ?_
        unfold ncan at hcan
        rw [if_neg k24_0, if_neg k24_1, if_neg k24_2, if_neg k24_3, if_neg k24_4] at hcan
        obtain ⟨i, hi, rfl⟩ := i_of (x := a) (m := 15) (by omega) hcan.1.1 (show _ ≤ nI (15) from hcan.1.2)
        refine e_aload_n dX10_calc_117 rfl 0 rfl ?_
        refine e_getR dX10_calc_118 lkX10_12 tt_0 rfl ?_
        refine e_iload_n dX10_calc_121 rfl 2 rfl ?_
        refine e_callVi dX10_calc_122 cvX10_118 rfl tt_1 rfl (c4_logarithm hp (x := i) (by omega) hF) (Nat.le_of_ble_eq_true rfl) (Nat.le_refl _) (Nat.le_refl _) rfl (Nat.le_of_ble_eq_true rfl) (fun r122 s122 m122 q122 => ?_)
        obtain ⟨q122, e122, g122⟩ := q122
        rw [e122, g122]
        clear e122 g122 s122 m122
        refine e_reti dX10_calc_125 ev_nwi (Nat.le_refl _) (Nat.le_refl _) ?_
        refine ⟨?_, rfl, rfl⟩
        rw [ncalc_3 hw hcan0]
        rw [if_neg k24_0, if_neg k24_1, if_neg k24_2, if_neg k24_3, if_neg k24_4]
        rw [i_cl (by omega)]
        exact q122
      · skip
        have hcan : ¬ ncan w a b := by
          rcases q14 with ⟨q, _⟩ | ⟨_, q⟩
          · rw [q] at h17; exact absurd h17 (by decide)
          · exact q
        refine e_bipush (v := (-2)) dX10_calc_20 rfl ?_
        refine e_reti dX10_calc_22 ev_nwi (Nat.le_refl _) (Nat.le_refl _) ?_
        exact ⟨(ncalc_2 hw hcan).symm, rfl, rfl⟩
    · skip
      skip
      refine e_iconst (v := (-1)) dX10_calc_9 rfl ?_
      refine e_reti dX10_calc_10 ev_nwi (Nat.le_refl _) (Nat.le_refl _) ?_
      exact ⟨(ncalc_1 (fun q => h6 q.2)).symm, rfl, rfl⟩
