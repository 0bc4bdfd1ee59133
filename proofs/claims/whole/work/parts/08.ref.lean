theorem i_lin (a b : Nat) : (16 : Int32) * nI a + nI b = nI (16 * a + b) := by
  rw [show (16 : Int32) = nI 16 from rfl, i_mul, i_add]
/-- the reference's search for an inverse -/
def riF (p a : Nat) : Nat → Nat → Bool → Bool
  | 0, _, is => is
  | m + 1, o, is => riF p a m (o + 1) (if gmul p a o = 1 then true else is)
theorem riF_eq (p a : Nat) : ∀ (m o : Nat) (is : Bool), 1 ≤ o → riF p a m o is = (is || decide (ginvF p a m o ≠ 0))
  | 0, _, is, _ => by simp [riF, ginvF]
  | m + 1, o, is, ho => by
    show riF p a m (o + 1) (if gmul p a o = 1 then true else is) = (is || decide ((if gmul p a o = 1 then o else ginvF p a m (o + 1)) ≠ 0))
    rw [riF_eq p a m (o + 1) _ (by omega)]
    split
    · rw [Bool.true_or, decide_eq_true (by omega), Bool.or_true]
    · rfl
def bN (b : Bool) : Int32 := if b then 1 else 0
theorem bN_01 (b : Bool) : bN b = 0 ∨ bN b = 1 := by cases b <;> simp [bN]

set_option maxRecDepth 100000 in
theorem c11_isField {p : Nat} (hp : 16 ≤ p ∧ p < 32) {σ : ex_S} {μ : ex_L} : Ci 5 yX11_isField cX11_isField 4 (some .boolean) [.int (nI p)] TT σ μ (fun z' σ' μ' => z' = bI (gfield p = true) ∧ σ' = σ ∧ μ' = μ) := by
  refine Cl_of (by decide +kernel) (Nat.le_of_ble_eq_true rfl) ?_
  show Ev RX11 cX11_isField 4 5 0 0 "isField" (some .boolean) ev_ext _ _ 0 0 0 [(0, .int (nI p))] [] TT σ μ
  have outer : ∀ (m a : Nat), a + m = 16 → 1 ≤ a → gfF p m a = gfield p → Ev RX11 cX11_isField 4 5 0 0 "isField" (some .boolean) ev_ext TT.length (fun v9 T9 σ9 μ9 => T9 = TT ∧ ∃ z9, v9 = some (.int z9) ∧ (fun z' σ' μ' => z' = bI (gfield p = true) ∧ σ' = σ ∧ μ' = μ) z9 σ9 μ9) 0 0 2 [(0, .int (nI p)), (1, .int (nI a))] [] TT σ μ := by
    intro m
    induction m with
    | zero =>
      intro a ha ha1 hR
      obtain rfl : a = 16 := by omega
      refine e_iload_n dX11_isField_2 rfl 1 rfl ?_
      refine e_bipush (v := 16) dX11_isField_3 rfl ?_
      refine e_icmp_ge (t := 48) dX11_isField_5 (by decide) (fun h5 => ?_) (fun h5 => ?_)
      · skip
        refine e_iconst (v := 1) dX11_isField_48 rfl ?_
        refine e_reti dX11_isField_49 ev_nw1 (Nat.le_refl _) (Nat.le_refl _) ?_
        exact ⟨(bI_t (by rw [← hR]; rfl)).symm, rfl, rfl⟩
      · skip
        exact absurd (show nI 16 ≤ nI 16 from (i_le (by decide) (by decide)).mpr (Nat.le_refl 16)) h5
    | succ m ih =>
      intro a ha ha1 hR
      have e2 : gfF p (m + 1) a = if ginv p a = 0 then false else gfF p m (a + 1) := rfl
      have inner : ∀ (m2 o : Nat) (is : Bool), o + m2 = 16 → 1 ≤ o → riF p a m2 o is = decide (ginv p a ≠ 0) → Ev RX11 cX11_isField 4 5 0 0 "isField" (some .boolean) ev_ext TT.length (fun v9 T9 σ9 μ9 => T9 = TT ∧ ∃ z9, v9 = some (.int z9) ∧ (fun z' σ' μ' => z' = bI (gfield p = true) ∧ σ' = σ ∧ μ' = μ) z9 σ9 μ9) 0 0 12 [(0, .int (nI p)), (1, .int (nI a)), (2, .int (bN is)), (3, .int (nI o))] [] TT σ μ := by
        intro m2
        induction m2 with
        | zero =>
          intro o is ho ho1 hI
          obtain rfl : o = 16 := by omega
          refine e_iload_n dX11_isField_12 rfl 3 rfl ?_
          refine e_bipush (v := 16) dX11_isField_13 rfl ?_
          refine e_icmp_ge (t := 36) dX11_isField_15 (by decide) (fun h15 => ?_) (fun h15 => ?_)
          · skip
            refine e_iload_n dX11_isField_36 rfl 2 rfl ?_
            refine e_if_ne (t := 42) dX11_isField_37 (by decide) (fun h37 => ?_) (fun h37 => ?_)
            · skip
              refine e_iinc (nI (a + 1)) [(0, .int (nI p)), (1, .int (nI (a + 1))), (2, .int (bN is)), (3, .int (nI 16))] dX11_isField_42 1 rfl (nI_1 a) (by decide) rfl ?_
              refine e_goto (t := 2) dX11_isField_45 (by decide) ?_
              refine e_lv [(0, .int (nI p)), (1, .int (nI (a + 1)))] (List.forall_mem_cons.mpr ⟨List.mem_of_getElem? (i := 0) rfl, List.forall_mem_cons.mpr ⟨List.mem_of_getElem? (i := 1) rfl, fun _ h => absurd h List.not_mem_nil⟩⟩) ?_
              have hI2 : is = decide (ginv p a ≠ 0) := hI
              rw [if_neg (fun q => h37 (by rw [hI2, decide_eq_false (fun z => z q)]; rfl))] at e2
              exact ih (a + 1) (by omega) (by omega) (by rw [← hR, e2])
            · skip
              refine e_iconst (v := 0) dX11_isField_40 rfl ?_
              refine e_reti dX11_isField_41 ev_nw0 (Nat.le_refl _) (Nat.le_refl _) ?_
              have hI2 : is = decide (ginv p a ≠ 0) := hI
              rw [if_pos (by
                cases Nat.eq_zero_or_pos (ginv p a) with
                | inl q => exact q
                | inr q => rw [hI2, decide_eq_true (by omega)] at h37; exact absurd h37 (by decide))] at e2
              exact ⟨(bI_f (by rw [← hR, e2]; decide)).symm, rfl, rfl⟩
          · skip
            exact absurd (show nI 16 ≤ nI 16 from (i_le (by decide) (by decide)).mpr (Nat.le_refl 16)) h15
        | succ m2 ih2 =>
          intro o is ho ho1 hI
          have e3 : riF p a (m2 + 1) o is = riF p a m2 (o + 1) (if gmul p a o = 1 then true else is) := rfl
          refine e_iload_n dX11_isField_12 rfl 3 rfl ?_
          refine e_bipush (v := 16) dX11_isField_13 rfl ?_
          refine e_icmp_ge (t := 36) dX11_isField_15 (by decide) (fun h15 => ?_) (fun h15 => ?_)
          · skip
            exact absurd ((i_le (by omega) (by omega)).mp (show nI 16 ≤ nI o from h15)) (by omega)
          · skip
            refine e_iload_n dX11_isField_18 rfl 1 rfl ?_
            refine e_iload_n dX11_isField_19 rfl 3 rfl ?_
            refine e_iload_n dX11_isField_20 rfl 0 rfl ?_
            refine e_callSi dX11_isField_21 cvX11_107 rfl (c11_product (p := p) (a := a) (b := o) (by omega) (by omega) (by omega)) (Nat.le_of_ble_eq_true rfl) (Nat.le_refl _) (Nat.le_refl _) rfl (Nat.le_of_ble_eq_true rfl) (fun r21 s21 m21 q21 => ?_)
            obtain ⟨q21, e21, g21⟩ := q21
            rw [e21, g21]
            clear e21 g21 s21 m21
            refine e_iconst (v := 1) dX11_isField_24 rfl ?_
            refine e_icmp_ne (t := 30) dX11_isField_25 (by decide) (fun h25 => ?_) (fun h25 => ?_)
            · skip
              refine e_iinc (nI (o + 1)) [(0, .int (nI p)), (1, .int (nI a)), (2, .int (bN is)), (3, .int (nI (o + 1)))] dX11_isField_30 3 rfl (nI_1 o) (by decide) rfl ?_
              refine e_goto (t := 12) dX11_isField_33 (by decide) ?_
              rw [q21] at h25
              rw [if_neg (fun q => h25 (congrArg nI q))] at e3
              exact ih2 (o + 1) is (by omega) (by omega) (by rw [← hI, e3])
            · skip
              refine e_iconst (v := 1) dX11_isField_28 rfl ?_
              refine e_istore_n [(0, .int (nI p)), (1, .int (nI a)), (2, .int 1), (3, .int (nI o))] dX11_isField_29 rfl (by decide) rfl ?_
              refine e_iinc (nI (o + 1)) [(0, .int (nI p)), (1, .int (nI a)), (2, .int 1), (3, .int (nI (o + 1)))] dX11_isField_30 3 rfl (nI_1 o) (by decide) rfl ?_
              refine e_goto (t := 12) dX11_isField_33 (by decide) ?_
              rw [q21] at h25
              rw [if_pos ((i_eq (Nat.lt_of_lt_of_le (gmul_lt16 hp (by omega) (by omega)) (by decide)) (by decide)).mp (show nI (gmul p a o) = nI 1 from h25))] at e3
              exact ih2 (o + 1) true (by omega) (by omega) (by rw [← hI, e3])
      refine e_iload_n dX11_isField_2 rfl 1 rfl ?_
      refine e_bipush (v := 16) dX11_isField_3 rfl ?_
      refine e_icmp_ge (t := 48) dX11_isField_5 (by decide) (fun h5 => ?_) (fun h5 => ?_)
      · skip
        exact absurd ((i_le (by omega) (by omega)).mp (show nI 16 ≤ nI a from h5)) (by omega)
      · skip
        refine e_iconst (v := 0) dX11_isField_8 rfl ?_
        refine e_istore_n [(0, .int (nI p)), (1, .int (nI a)), (2, .int 0)] dX11_isField_9 rfl (by decide) rfl ?_
        refine e_iconst (v := 1) dX11_isField_10 rfl ?_
        refine e_istore_n [(0, .int (nI p)), (1, .int (nI a)), (2, .int 0), (3, .int 1)] dX11_isField_11 rfl (by decide) rfl ?_
        exact inner 15 1 false rfl (by decide) (by rw [riF_eq _ _ _ _ _ (by decide)]; rfl)
  refine e_iconst (v := 1) dX11_isField_0 rfl ?_
  refine e_istore_n [(0, .int (nI p)), (1, .int 1)] dX11_isField_1 rfl (by decide) rfl ?_
  exact outer 15 1 rfl (by decide) (gfF_eq p hp)

set_option maxRecDepth 100000 in
theorem c11_order {p : Nat} (hp : gP p) {g : Nat} (hg0 : 1 ≤ g) (hg : g < 16) {σ : ex_S} {μ : ex_L} : Ci 4 yX11_order cX11_order 4 (some .int) [.int (nI g), .int (nI p)] TT σ μ (fun z' σ' μ' => z' = nI (gord p g) ∧ σ' = σ ∧ μ' = μ) := by
  refine Cl_of (by decide +kernel) (Nat.le_of_ble_eq_true rfl) ?_
  show Ev RX11 cX11_order 4 4 0 0 "order" (some .int) ev_ext _ _ 0 0 0 [(0, .int (nI g)), (1, .int (nI p))] [] TT σ μ
  have hp2 : 16 ≤ p ∧ p < 32 := by rcases hp with rfl | rfl | rfl <;> decide
  have loop : ∀ (m n v : Nat), n + m < 2 ^ 31 → v < 16 → gback p g m v → gordF p g m v n = gord p g → Ev RX11 cX11_order 4 4 0 0 "order" (some .int) ev_ext TT.length (fun v9 T9 σ9 μ9 => T9 = TT ∧ ∃ z9, v9 = some (.int z9) ∧ (fun z' σ' μ' => z' = nI (gord p g) ∧ σ' = σ ∧ μ' = μ) z9 σ9 μ9) 0 0 4 [(0, .int (nI g)), (1, .int (nI p)), (2, .int (nI n)), (3, .int (nI v))] [] TT σ μ := by
    intro m
    induction m with
    | zero =>
      intro n v hn hv hb hR
      obtain rfl : v = 1 := hb
      refine e_iload_n dX11_order_4 rfl 3 rfl ?_
      refine e_iconst (v := 1) dX11_order_5 rfl ?_
      refine e_icmp_eq (t := 22) dX11_order_6 (by decide) (fun h6 => ?_) (fun h6 => ?_)
      · skip
        refine e_iload_n dX11_order_22 rfl 2 rfl ?_
        refine e_reti dX11_order_23 ev_nwi (Nat.le_refl _) (Nat.le_refl _) ?_
        exact ⟨by rw [← hR]; rfl, rfl, rfl⟩
      · skip
        exact absurd rfl h6
    | succ m ih =>
      intro n v hn hv hb hR
      have e2 : gordF p g (m + 1) v n = if v = 1 then n else gordF p g m (gmul p v g) (n + 1) := rfl
      refine e_iload_n dX11_order_4 rfl 3 rfl ?_
      refine e_iconst (v := 1) dX11_order_5 rfl ?_
      refine e_icmp_eq (t := 22) dX11_order_6 (by decide) (fun h6 => ?_) (fun h6 => ?_)
      · skip
        rw [if_pos ((i_eq (by omega) (by decide)).mp (show nI v = nI 1 from h6))] at e2
        refine e_iload_n dX11_order_22 rfl 2 rfl ?_
        refine e_reti dX11_order_23 ev_nwi (Nat.le_refl _) (Nat.le_refl _) ?_
        exact ⟨by rw [← hR, e2], rfl, rfl⟩
      · skip
        rw [if_neg (fun q => h6 (congrArg nI q))] at e2
        have hb2 : gback p g m (gmul p v g) := hb.elim (fun q => absurd (congrArg nI q) h6) id
        refine e_iinc (nI (n + 1)) [(0, .int (nI g)), (1, .int (nI p)), (2, .int (nI (n + 1))), (3, .int (nI v))] dX11_order_9 2 rfl (nI_1 n) (by decide) rfl ?_
        refine e_iload_n dX11_order_12 rfl 3 rfl ?_
        refine e_iload_n dX11_order_13 rfl 0 rfl ?_
        refine e_iload_n dX11_order_14 rfl 1 rfl ?_
        refine e_callSi dX11_order_15 cvX11_107 rfl (c11_product (p := p) (a := v) (b := g) (by omega) hv hg) (Nat.le_of_ble_eq_true rfl) (Nat.le_refl _) (Nat.le_refl _) rfl (Nat.le_of_ble_eq_true rfl) (fun r15 s15 m15 q15 => ?_)
        obtain ⟨q15, e15, g15⟩ := q15
        rw [e15, g15]
        clear e15 g15 s15 m15
        refine e_istore_n [(0, .int (nI g)), (1, .int (nI p)), (2, .int (nI (n + 1))), (3, .int r15)] dX11_order_18 rfl (by decide) rfl ?_
        refine e_goto (t := 4) dX11_order_19 (by decide) ?_
        rw [q15]
        exact ih (n + 1) _ (by omega) (gmul_lt hp _ hv _ hg) hb2 (by rw [← hR, e2])
  refine e_iconst (v := 1) dX11_order_0 rfl ?_
  refine e_istore_n [(0, .int (nI g)), (1, .int (nI p)), (2, .int 1)] dX11_order_1 rfl (by decide) rfl ?_
  refine e_iload_n dX11_order_2 rfl 0 rfl ?_
  refine e_istore_n [(0, .int (nI g)), (1, .int (nI p)), (2, .int 1), (3, .int (nI g))] dX11_order_3 rfl (by decide) rfl ?_
  exact loop 14 1 g (by decide) hg (gback_ok hp hg0 hg) rfl

set_option maxRecDepth 100000 in
theorem c11_makes {p : Nat} (hp : gP p) {σ : ex_S} {μ : ex_L} : Cv 6 yX11_makes cX11_makes 4 none [.ref 127, .int (nI p)] TT σ μ (fun σ' μ' => FR σ' p ∧ (∀ i, i ≠ 127 → i ≠ 128 → i ≠ 129 → i ≠ 130 → σ' i = σ i) ∧ (∀ k, 2 ≤ k → σ' 127 k = σ 127 k) ∧ μ' = μ) := by
  refine Cl_of (by decide +kernel) (Nat.le_of_ble_eq_true rfl) ?_
  show Ev RX11 cX11_makes 4 6 0 0 "makes" none ev_ext _ _ 0 0 0 [(0, .ref 127), (1, .int (nI p))] [] TT σ μ
  have hp2 : 16 ≤ p ∧ p < 32 := by rcases hp with rfl | rfl | rfl <;> decide
  obtain ⟨hg2, hg16, hgl, hge⟩ := ggen_ok hp
  have loopD : ∀ (m i : Nat) (σ1 : ex_S), i + m = 15 → (∀ i, i ≠ 127 → i ≠ 128 → i ≠ 129 → i ≠ 130 → σ1 i = σ i) → (∀ k, 2 ≤ k → σ1 127 k = σ 127 k) → σ1 127 0 = nI p → σ1 127 1 = nI (ggen p) → (∀ k, k < 256 → σ1 128 k = nI (gmul p (k / 16) (k % 16))) → (∀ j, j < i → σ1 129 j = nI (gexp p j)) → (∀ j, j < i → σ1 130 (gexp p j) = nI j) → Ev RX11 cX11_makes 4 6 0 0 "makes" none ev_ext TT.length (fun v9 T9 σ9 μ9 => T9 = TT ∧ v9 = none ∧ (fun σ' μ' => FR σ' p ∧ (∀ i, i ≠ 127 → i ≠ 128 → i ≠ 129 → i ≠ 130 → σ' i = σ i) ∧ (∀ k, 2 ≤ k → σ' 127 k = σ 127 k) ∧ μ' = μ) σ9 μ9) 0 0 85 [(0, .ref 127), (1, .int (nI p)), (2, .int (nI (gexp p i))), (3, .int (nI i))] [] TT σ1 μ := by
    intro m
    induction m with
    | zero =>
      intro i σ1 hi f1 f2 f3 f4 f5 f6 f7
      obtain rfl : i = 15 := by omega
      refine e_iload_n dX11_makes_85 rfl 3 rfl ?_
      refine e_bipush (v := 15) dX11_makes_86 rfl ?_
      refine e_icmp_ge (t := 126) dX11_makes_88 (by decide) (fun h88 => ?_) (fun h88 => ?_)
      · skip
        refine e_retv dX11_makes_126 (Nat.le_refl _) (Nat.le_refl _) ?_
        refine ⟨⟨f3, f4, fun a ha b hb => ?_, f6, fun x hx hx0 => ?_⟩, f1, f2, rfl⟩
        · rw [f5 (16 * a + b) (by omega), show (16 * a + b) / 16 = a by omega, show (16 * a + b) % 16 = b by omega]
        · have h1 := glog_lt hp x hx
          have h2 := f7 (glog p x) h1.1
          rwa [h1.2 hx0] at h2
      · skip
        exact absurd (show nI 15 ≤ nI 15 from (i_le (by decide) (by decide)).mpr (Nat.le_refl 15)) h88
    | succ m ih =>
      intro i σ1 hi f1 f2 f3 f4 f5 f6 f7
      have hw : gexp p i < 16 := gpow_lt hp hg16 i
      refine e_iload_n dX11_makes_85 rfl 3 rfl ?_
      refine e_bipush (v := 15) dX11_makes_86 rfl ?_
      refine e_icmp_ge (t := 126) dX11_makes_88 (by decide) (fun h88 => ?_) (fun h88 => ?_)
      · skip
        exact absurd ((i_le (by omega) (by omega)).mp (show nI 15 ≤ nI i from h88)) (by omega)
      · skip
        refine e_aload_n dX11_makes_91 rfl 0 rfl ?_
        refine e_getR dX11_makes_92 lkX11_15 tt_127 rfl ?_
        refine e_iload_n dX11_makes_95 rfl 3 rfl ?_
        refine e_iload_n dX11_makes_96 rfl 2 rfl ?_
        refine e_iast dX11_makes_97 tt_129 (vp_in_nI (by omega) (by decide)) ?_
        refine e_aload_n dX11_makes_98 rfl 0 rfl ?_
        refine e_getR dX11_makes_99 lkX11_18 tt_127 rfl ?_
        refine e_iload_n dX11_makes_102 rfl 2 rfl ?_
        refine e_iload_n dX11_makes_103 rfl 3 rfl ?_
        refine e_iast dX11_makes_104 tt_130 (vp_in_nI (by omega) (by decide)) ?_
        refine e_aload_n dX11_makes_105 rfl 0 rfl ?_
        refine e_getR dX11_makes_106 lkX11_9 tt_127 rfl ?_
        refine e_bipush (v := 16) dX11_makes_109 rfl ?_
        refine e_iload_n dX11_makes_111 rfl 2 rfl ?_
        refine e_imul dX11_makes_112 ?_
        refine e_aload_n dX11_makes_113 rfl 0 rfl ?_
        refine e_getI dX11_makes_114 lkX11_114 tt_127 rfl ?_
        refine e_iadd dX11_makes_117 ?_
        rw [sup_obj (by decide), sup_obj (by decide), f4, i_lin]
        refine e_iald dX11_makes_118 tt_128 (vp_in_nI (by omega) (by decide)) ?_
        refine e_name (fun x119 hx119 => ?_)
        refine e_istore_n [(0, .ref 127), (1, .int (nI p)), (2, .int x119), (3, .int (nI i))] dX11_makes_119 rfl (by decide) rfl ?_
        refine e_iinc (nI (i + 1)) [(0, .ref 127), (1, .int (nI p)), (2, .int x119), (3, .int (nI (i + 1)))] dX11_makes_120 3 rfl (nI_1 i) (by decide) rfl ?_
        refine e_goto (t := 85) dX11_makes_123 (by decide) ?_
        rw [i_cl (by omega), i_cl (by omega), i_cl (by omega)] at *
        rw [sup_obj (by decide), sup_obj (by decide), f5 _ (by omega), show (16 * gexp p i + ggen p) / 16 = gexp p i by omega, show (16 * gexp p i + ggen p) % 16 = ggen p by omega] at hx119
        subst hx119
        refine ih (i + 1) _ (by omega) (fun k h1 h2 h3 h4 => by rw [sup_obj h4, sup_obj h3]; exact f1 k h1 h2 h3 h4) (fun k hk => by rw [sup_obj (by decide), sup_obj (by decide)]; exact f2 k hk) (by rw [sup_obj (by decide), sup_obj (by decide)]; exact f3) (by rw [sup_obj (by decide), sup_obj (by decide)]; exact f4) (fun k hk => by rw [sup_obj (by decide), sup_obj (by decide)]; exact f5 k hk) (fun j hj => ?_) (fun j hj => ?_)
        · rw [sup_obj (by decide)]
          by_cases e : j = i
          · rw [e, sup_same]
          · rw [sup_idx e]
            exact f6 j (by omega)
        · by_cases e : j = i
          · rw [e, sup_same]
          · rw [sup_idx (fun q => e (by have a1 := (glog_exp hp j (by omega)).1; have a2 := (glog_exp hp i (by omega)).1; rw [q] at a1; exact a1.symm.trans a2)), sup_obj (by decide)]
            exact f7 j (by omega)
  have loopC : ∀ (m g : Nat) (σ1 : ex_S), g + m = ggen p → 2 ≤ g → (∀ i, i ≠ 127 → i ≠ 128 → i ≠ 129 → i ≠ 130 → σ1 i = σ i) → (∀ k, 2 ≤ k → σ1 127 k = σ 127 k) → σ1 127 0 = nI p → σ1 127 1 = nI g → (∀ k, k < 256 → σ1 128 k = nI (gmul p (k / 16) (k % 16))) → ∀ z2 : Int32, Ev RX11 cX11_makes 4 6 0 0 "makes" none ev_ext TT.length (fun v9 T9 σ9 μ9 => T9 = TT ∧ v9 = none ∧ (fun σ' μ' => FR σ' p ∧ (∀ i, i ≠ 127 → i ≠ 128 → i ≠ 129 → i ≠ 130 → σ' i = σ i) ∧ (∀ k, 2 ≤ k → σ' 127 k = σ 127 k) ∧ μ' = μ) σ9 μ9) 0 0 55 [(0, .ref 127), (1, .int (nI p)), (2, .int z2)] [] TT σ1 μ := by
    intro m
    induction m with
    | zero =>
      intro g σ1 hg hg0 f1 f2 f3 f4 f5 z2
      obtain rfl : g = ggen p := by omega
      refine e_aload_n dX11_makes_55 rfl 0 rfl ?_
      refine e_getI dX11_makes_56 lkX11_114 tt_127 rfl ?_
      rw [f4]
      refine e_iload_n dX11_makes_59 rfl 1 rfl ?_
      refine e_callSi dX11_makes_60 cvX11_117 rfl (c11_order hp (g := ggen p) (by omega) (by omega)) (Nat.le_of_ble_eq_true rfl) (Nat.le_refl _) (Nat.le_refl _) rfl (Nat.le_of_ble_eq_true rfl) (fun r60 s60 m60 q60 => ?_)
      obtain ⟨q60, e60, g60⟩ := q60
      rw [e60, g60]
      clear e60 g60 s60 m60
      refine e_bipush (v := 15) dX11_makes_63 rfl ?_
      refine e_icmp_ge (t := 81) dX11_makes_65 (by decide) (fun h65 => ?_) (fun h65 => ?_)
      · skip
        refine e_iconst (v := 1) dX11_makes_81 rfl ?_
        refine e_istore_n [(0, .ref 127), (1, .int (nI p)), (2, .int 1)] dX11_makes_82 rfl (by decide) rfl ?_
        refine e_iconst (v := 0) dX11_makes_83 rfl ?_
        refine e_istore_n [(0, .ref 127), (1, .int (nI p)), (2, .int 1), (3, .int 0)] dX11_makes_84 rfl (by decide) rfl ?_
        exact loopD 15 0 σ1 rfl f1 f2 f3 f4 f5 (fun j hj => absurd hj (by omega)) (fun j hj => absurd hj (by omega))
      · skip
        exact absurd (show nI 15 ≤ r60 from by rw [q60, hge]; exact (i_le (by decide) (by decide)).mpr (Nat.le_refl 15)) h65
    | succ m ih =>
      intro g σ1 hg hg0 f1 f2 f3 f4 f5 z2
      have ho := hgl g hg0 (by omega)
      refine e_aload_n dX11_makes_55 rfl 0 rfl ?_
      refine e_getI dX11_makes_56 lkX11_114 tt_127 rfl ?_
      rw [f4]
      refine e_iload_n dX11_makes_59 rfl 1 rfl ?_
      refine e_callSi dX11_makes_60 cvX11_117 rfl (c11_order hp (g := g) (by omega) (by omega)) (Nat.le_of_ble_eq_true rfl) (Nat.le_refl _) (Nat.le_refl _) rfl (Nat.le_of_ble_eq_true rfl) (fun r60 s60 m60 q60 => ?_)
      obtain ⟨q60, e60, g60⟩ := q60
      rw [e60, g60]
      clear e60 g60 s60 m60
      refine e_bipush (v := 15) dX11_makes_63 rfl ?_
      refine e_icmp_ge (t := 81) dX11_makes_65 (by decide) (fun h65 => ?_) (fun h65 => ?_)
      · skip
        exact absurd ((i_le (by decide) (by omega)).mp (show nI 15 ≤ nI (gord p g) from by rw [← q60]; exact h65)) (by omega)
      · skip
        refine e_aload_n dX11_makes_68 rfl 0 rfl ?_
        refine e_dup dX11_makes_69 rfl ?_
        refine e_getI dX11_makes_70 lkX11_114 tt_127 rfl ?_
        rw [f4]
        refine e_iconst (v := 1) dX11_makes_73 rfl ?_
        refine e_iadd dX11_makes_74 ?_
        rw [show nI g + 1 = nI (g + 1) from nI_1 g]
        refine e_putI dX11_makes_75 lkX11_114' tt_127 rfl rfl rfl ?_
        refine e_goto (t := 55) dX11_makes_78 (by decide) ?_
        exact ih (g + 1) _ (by omega) (by omega) (fun k h1 h2 h3 h4 => by rw [sup_obj h1]; exact f1 k h1 h2 h3 h4) (fun k hk => by rw [sup_idx (by omega)]; exact f2 k hk) (by rw [sup_idx (by decide)]; exact f3) sup_same (fun k hk => by rw [sup_obj (by decide)]; exact f5 k hk) z2
  have loopA : ∀ (m a : Nat) (σ1 : ex_S), a + m = 16 → (∀ i, i ≠ 127 → i ≠ 128 → i ≠ 129 → i ≠ 130 → σ1 i = σ i) → (∀ k, 2 ≤ k → σ1 127 k = σ 127 k) → σ1 127 0 = nI p → (∀ k, k < 16 * a → σ1 128 k = nI (gmul p (k / 16) (k % 16))) → Ev RX11 cX11_makes 4 6 0 0 "makes" none ev_ext TT.length (fun v9 T9 σ9 μ9 => T9 = TT ∧ v9 = none ∧ (fun σ' μ' => FR σ' p ∧ (∀ i, i ≠ 127 → i ≠ 128 → i ≠ 129 → i ≠ 130 → σ' i = σ i) ∧ (∀ k, 2 ≤ k → σ' 127 k = σ 127 k) ∧ μ' = μ) σ9 μ9) 0 0 7 [(0, .ref 127), (1, .int (nI p)), (2, .int (nI a))] [] TT σ1 μ := by
    intro m
    induction m with
    | zero =>
      intro a σ1 ha f1 f2 f3 f5
      obtain rfl : a = 16 := by omega
      refine e_iload_n dX11_makes_7 rfl 2 rfl ?_
      refine e_bipush (v := 16) dX11_makes_8 rfl ?_
      refine e_icmp_ge (t := 50) dX11_makes_10 (by decide) (fun h10 => ?_) (fun h10 => ?_)
      · skip
        refine e_aload_n dX11_makes_50 rfl 0 rfl ?_
        refine e_iconst (v := 2) dX11_makes_51 rfl ?_
        refine e_putI dX11_makes_52 lkX11_114' tt_127 rfl rfl rfl ?_
        exact loopC (ggen p - 2) 2 _ (by omega) (by decide) (fun k h1 h2 h3 h4 => by rw [sup_obj h1]; exact f1 k h1 h2 h3 h4) (fun k hk => by rw [sup_idx (by omega)]; exact f2 k hk) (by rw [sup_idx (by decide)]; exact f3) sup_same (fun k hk => by rw [sup_obj (by decide)]; exact f5 k (by omega)) _
      · skip
        exact absurd (show nI 16 ≤ nI 16 from (i_le (by decide) (by decide)).mpr (Nat.le_refl 16)) h10
    | succ m ih =>
      intro a σ1 ha f1 f2 f3 f5
      have loopB : ∀ (m2 b : Nat) (σ1 : ex_S), b + m2 = 16 → (∀ i, i ≠ 127 → i ≠ 128 → i ≠ 129 → i ≠ 130 → σ1 i = σ i) → (∀ k, 2 ≤ k → σ1 127 k = σ 127 k) → σ1 127 0 = nI p → (∀ k, k < 16 * a + b → σ1 128 k = nI (gmul p (k / 16) (k % 16))) → Ev RX11 cX11_makes 4 6 0 0 "makes" none ev_ext TT.length (fun v9 T9 σ9 μ9 => T9 = TT ∧ v9 = none ∧ (fun σ' μ' => FR σ' p ∧ (∀ i, i ≠ 127 → i ≠ 128 → i ≠ 129 → i ≠ 130 → σ' i = σ i) ∧ (∀ k, 2 ≤ k → σ' 127 k = σ 127 k) ∧ μ' = μ) σ9 μ9) 0 0 15 [(0, .ref 127), (1, .int (nI p)), (2, .int (nI a)), (3, .int (nI b))] [] TT σ1 μ := by
        intro m2
        induction m2 with
        | zero =>
          intro b σ1 hb f1 f2 f3 f5
          obtain rfl : b = 16 := by omega
          refine e_iload_n dX11_makes_15 rfl 3 rfl ?_
          refine e_bipush (v := 16) dX11_makes_16 rfl ?_
          refine e_icmp_ge (t := 44) dX11_makes_18 (by decide) (fun h18 => ?_) (fun h18 => ?_)
          · skip
            refine e_iinc (nI (a + 1)) [(0, .ref 127), (1, .int (nI p)), (2, .int (nI (a + 1))), (3, .int (nI 16))] dX11_makes_44 2 rfl (nI_1 a) (by decide) rfl ?_
            refine e_goto (t := 7) dX11_makes_47 (by decide) ?_
            refine e_lv [(0, .ref 127), (1, .int (nI p)), (2, .int (nI (a + 1)))] (List.forall_mem_cons.mpr ⟨List.mem_of_getElem? (i := 0) rfl, List.forall_mem_cons.mpr ⟨List.mem_of_getElem? (i := 1) rfl, List.forall_mem_cons.mpr ⟨List.mem_of_getElem? (i := 2) rfl, fun _ h => absurd h List.not_mem_nil⟩⟩⟩) ?_
            exact ih (a + 1) σ1 (by omega) f1 f2 f3 (fun k hk => f5 k (by omega))
          · skip
            exact absurd (show nI 16 ≤ nI 16 from (i_le (by decide) (by decide)).mpr (Nat.le_refl 16)) h18
        | succ m2 ih2 =>
          intro b σ1 hb f1 f2 f3 f5
          refine e_iload_n dX11_makes_15 rfl 3 rfl ?_
          refine e_bipush (v := 16) dX11_makes_16 rfl ?_
          refine e_icmp_ge (t := 44) dX11_makes_18 (by decide) (fun h18 => ?_) (fun h18 => ?_)
          · skip
            exact absurd ((i_le (by omega) (by omega)).mp (show nI 16 ≤ nI b from h18)) (by omega)
          · skip
            refine e_aload_n dX11_makes_21 rfl 0 rfl ?_
            refine e_getR dX11_makes_22 lkX11_9 tt_127 rfl ?_
            refine e_bipush (v := 16) dX11_makes_25 rfl ?_
            refine e_iload_n dX11_makes_27 rfl 2 rfl ?_
            refine e_imul dX11_makes_28 ?_
            refine e_iload_n dX11_makes_29 rfl 3 rfl ?_
            refine e_iadd dX11_makes_30 ?_
            rw [i_lin]
            refine e_iload_n dX11_makes_31 rfl 2 rfl ?_
            refine e_iload_n dX11_makes_32 rfl 3 rfl ?_
            refine e_iload_n dX11_makes_33 rfl 1 rfl ?_
            refine e_callSi dX11_makes_34 cvX11_107 rfl (c11_product (p := p) (a := a) (b := b) (by omega) (by omega) (by omega)) (Nat.le_of_ble_eq_true rfl) (Nat.le_refl _) (Nat.le_refl _) rfl (Nat.le_of_ble_eq_true rfl) (fun r34 s34 m34 q34 => ?_)
            obtain ⟨q34, e34, g34⟩ := q34
            rw [e34, g34]
            clear e34 g34 s34 m34
            refine e_iast dX11_makes_37 tt_128 (vp_in_nI (by omega) (by decide)) ?_
            refine e_iinc (nI (b + 1)) [(0, .ref 127), (1, .int (nI p)), (2, .int (nI a)), (3, .int (nI (b + 1)))] dX11_makes_38 3 rfl (nI_1 b) (by decide) rfl ?_
            refine e_goto (t := 15) dX11_makes_41 (by decide) ?_
            rw [i_cl (by omega), q34]
            refine ih2 (b + 1) _ (by omega) (fun k h1 h2 h3 h4 => by rw [sup_obj h2]; exact f1 k h1 h2 h3 h4) (fun k hk => by rw [sup_obj (by decide)]; exact f2 k hk) (by rw [sup_obj (by decide)]; exact f3) (fun k hk => ?_)
            by_cases e : k = 16 * a + b
            · rw [e, sup_same, show (16 * a + b) / 16 = a by omega, show (16 * a + b) % 16 = b by omega]
            · rw [sup_idx e]
              exact f5 k (by omega)
      refine e_iload_n dX11_makes_7 rfl 2 rfl ?_
      refine e_bipush (v := 16) dX11_makes_8 rfl ?_
      refine e_icmp_ge (t := 50) dX11_makes_10 (by decide) (fun h10 => ?_) (fun h10 => ?_)
      · skip
        exact absurd ((i_le (by omega) (by omega)).mp (show nI 16 ≤ nI a from h10)) (by omega)
      · skip
        refine e_iconst (v := 0) dX11_makes_13 rfl ?_
        refine e_istore_n [(0, .ref 127), (1, .int (nI p)), (2, .int (nI a)), (3, .int 0)] dX11_makes_14 rfl (by decide) rfl ?_
        exact loopB 16 0 σ1 rfl f1 f2 f3 (fun k hk => f5 k (by omega))
  refine e_aload_n dX11_makes_0 rfl 0 rfl ?_
  refine e_iload_n dX11_makes_1 rfl 1 rfl ?_
  refine e_putI dX11_makes_2 lkX11_111' tt_127 rfl rfl rfl ?_
  refine e_iconst (v := 0) dX11_makes_5 rfl ?_
  refine e_istore_n [(0, .ref 127), (1, .int (nI p)), (2, .int 0)] dX11_makes_6 rfl (by decide) rfl ?_
  exact loopA 16 0 _ rfl (fun k h1 h2 h3 h4 => by rw [sup_obj h1]) (fun k hk => by rw [sup_idx (by omega)]) sup_same (fun k hk => absurd hk (by omega))
