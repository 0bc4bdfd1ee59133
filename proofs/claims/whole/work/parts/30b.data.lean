noncomputable def ndata (S : ns_T) (x y : Int32) : out_T := cif (0 ≤ x ∧ x ≤ 6) (cif (0 ≤ y ∧ y ≤ 9) (cif (S 0 1 < 5) (nI (S 0 0), nnd S x.toNatClampNeg y.toNatClampNeg) (-4, S)) (-2, S)) (-1, S)
theorem k6 {x : Int32} : (0 ≤ x ∧ x < 7) ↔ (0 ≤ x ∧ x ≤ 6) := by
  rw [lt_7]
/-- the class's table of ranks grows by a node -/
theorem RKI.pre {σ : ex_S} {p : Nat} {S S' : ns_T} (hK : RKI σ p S) (h : S' 0 0 = S 0 0 + 1) (h5 : ∀ j, j < S 0 0 → S' 5 j = S 5 j) : ∀ t, t < 2 ^ S 0 0 → σ 6 t = nI (grk p (fl S' t (S 0 0))) := by
  have hf : ∀ t n, n ≤ S 0 0 → fl S' t n = fl S t n := by
    intro t n
    induction n with
    | zero => intro _; rfl
    | succ n ih =>
      intro hn
      unfold fl
      rw [ih (by omega), h5 n (by omega)]
  intro t ht
  rw [hf t _ (Nat.le_refl _)]
  exact hK t ht
theorem RKI.post {σ : ex_S} {p : Nat} {S' : ns_T} {n : Nat} (h : S' 0 0 = n + 1) (hK : ∀ t, t < 2 ^ (n + 1) → σ 6 t = nI (grk p (fl S' t (n + 1)))) : RKI σ p S' := fun t ht => by
  rw [h] at ht
  unfold nrk
  rw [h]
  exact hK t ht
theorem SpV.frame {σ σ' : ex_S} {R : Nat → Nat} {z : Nat} (h : SpV σ 28 R z) (f : ∀ i, (i < 33 ∨ 52 ≤ i) → σ' i = σ i) : SpV σ' 28 R z := h.to (f 28 (by decide)) (f 29 (by decide))

set_option maxRecDepth 100000 in
theorem c10_data {p : Nat} (hp : gP p) {S : ns_T} (hV : VS S) {x y : Int32} {σ : ex_S} {μ : ex_L}(hF : FC σ p) (hC : NC σ 33 S) (hK : RKI σ p S) (h28 : SpV σ 28 (fun _ => 0) 0) : Ci 8 yX10_data cX10_data 4 (some .int) [.ref 0, .int x, .int y] TT σ μ (fun z' σ' μ' => z' = (ndata S x y).1 ∧ NC σ' 33 (ndata S x y).2 ∧ RKI σ' p (ndata S x y).2 ∧ SpV σ' 28 (fun _ => 0) 0 ∧ (∀ i, i ≠ 6 → (i < 8 ∨ 30 ≤ i) → (i < 33 ∨ 52 ≤ i) → σ' i = σ i) ∧ μ' = μ) := by
  refine Cl_of (by decide +kernel) (Nat.le_of_ble_eq_true rfl) ?_
  show Ev RX10 cX10_data 4 8 0 0 "data" (some .int) ev_ext _ _ 0 0 0 [(0, .ref 0), (1, .int x), (2, .int y)] [] TT σ μ
  have hn := hV.1
  have hd := hV.2.1
  have h54 := hV.2.2.2.1
  refine e_iload_n dX10_data_0 rfl 1 rfl ?_
  refine e_callSi dX10_data_1 cvX10_124 rfl (c10_isKind x) (Nat.le_of_ble_eq_true rfl) (Nat.le_refl _) (Nat.le_refl _) rfl (Nat.le_of_ble_eq_true rfl) (fun r1 s1 m1 q1 => ?_)
  obtain ⟨q1, e1, g1⟩ := q1
  rw [e1, g1]
  clear e1 g1 s1 m1
  refine e_if_ne (t := 9) dX10_data_4 (by decide) (fun h4 => ?_) (fun h4 => ?_)
  · skip
    rw [q1, bI_eq0] at h4
    have hP := k6.mp (Classical.not_not.mp h4)
    refine e_iload_n dX10_data_9 rfl 2 rfl ?_
    refine e_callSi dX10_data_10 cvX10_127 rfl (c10_isDigit y) (Nat.le_of_ble_eq_true rfl) (Nat.le_refl _) (Nat.le_refl _) rfl (Nat.le_of_ble_eq_true rfl) (fun r10 s10 m10 q10 => ?_)
    obtain ⟨q10, e10, g10⟩ := q10
    rw [e10, g10]
    clear e10 g10 s10 m10
    refine e_if_ne (t := 19) dX10_data_13 (by decide) (fun h13 => ?_) (fun h13 => ?_)
    · skip
      rw [q10, bI_eq0] at h13
      have hW := Classical.not_not.mp h13
      refine e_aload_n dX10_data_19 rfl 0 rfl ?_
      refine e_getR dX10_data_20 lkX10_46 tt_0 rfl ?_
      refine e_getR dX10_data_23 lkX10_89 (store_0 store_32_) rfl ?_
      refine e_getI dX10_data_26 lkX10_130 (nodes_0 (store_n store_32_)) rfl ?_
      refine e_iconst (v := 5) dX10_data_29 rfl ?_
      refine e_icmp_lt (t := 36) dX10_data_30 (by decide) (fun h30 => ?_) (fun h30 => ?_)
      · skip
        rw [hC.2.1] at h30
        have h5 : S 0 1 < 5 := (i_lt (by omega) (by decide)).mp h30
        obtain ⟨k, hk, rfl⟩ := i_of (x := x) (m := 6) (by omega) hP.1 (show _ ≤ nI (6) from hP.2)
        obtain ⟨v, hv, rfl⟩ := i_of (x := y) (m := 9) (by omega) hW.1 (show _ ≤ nI (9) from hW.2)
        have hV1 : VS (nnd S k v) := hV.dat h5 (by omega) hv
        have hf5 : ∀ j, j < S 0 0 → nnd S k v 5 j = S 5 j := fun j hj => by rw [nnd_e (by decide) (by decide) (by decide), nnew_e (by decide) (Or.inl (by omega)) (by omega)]
        refine e_aload_n dX10_data_36 rfl 0 rfl ?_
        refine e_getR dX10_data_37 lkX10_46 tt_0 rfl ?_
        refine e_getR dX10_data_40 lkX10_89 (store_0 store_32_) rfl ?_
        refine e_iload_n dX10_data_43 rfl 1 rfl ?_
        refine e_iload_n dX10_data_44 rfl 2 rfl ?_
        refine e_callVi dX10_data_45 cvX10_133 rfl (nodes_0 (store_n store_32_)) rfl (c3_addData nodes_33_ (k := k) (v := v) hV h5 hC) (Nat.le_of_ble_eq_true rfl) (Nat.le_refl _) (Nat.le_refl _) rfl (Nat.le_of_ble_eq_true rfl) (fun r45 s45 m45 q45 => ?_)
        obtain ⟨q45, a1, a2, a3⟩ := q45
        rw [a3]
        rw [q45]
        refine e_istore_n [(0, .ref 0), (1, .int (nI k)), (2, .int (nI v)), (3, .int (nI (S 0 0)))] dX10_data_48 rfl (by decide) rfl ?_
        refine e_aload_n dX10_data_49 rfl 0 rfl ?_
        refine e_getR dX10_data_50 lkX10_30 tt_0 rfl ?_
        refine e_aload_n dX10_data_53 rfl 0 rfl ?_
        refine e_getR dX10_data_54 lkX10_46 tt_0 rfl ?_
        refine e_getR dX10_data_57 lkX10_89 (store_0 store_32_) rfl ?_
        refine e_iload_n dX10_data_60 rfl 3 rfl ?_
        refine e_callVv dX10_data_61 cvX10_136 rfl tt_5 rfl (c6_extend nodes_33_ (by decide) hp hV1 nnd_00 (hF.to (a2 1 (by decide)) (a2 2 (by decide))) a1 (h28.frame (fun i hi => a2 i hi)) ((hK.to (a2 6 (by decide))).pre nnd_00 hf5)) (Nat.le_of_ble_eq_true rfl) (Nat.le_refl _) (Nat.le_refl _) rfl (Nat.le_of_ble_eq_true rfl) (fun s61 m61 q61 => ?_)
        obtain ⟨b1, b2, b3, b4⟩ := q61
        rw [b4]
        refine e_iload_n dX10_data_64 rfl 3 rfl ?_
        refine e_reti dX10_data_65 ev_nwi (Nat.le_refl _) (Nat.le_refl _) ?_
        have hr : ndata S (nI k) (nI v) = (nI (S 0 0), nnd S k v) := by
          unfold ndata
          rw [cif_t hP, cif_t hW, cif_t h5, i_cl (show k < 2 ^ 31 by omega), i_cl (show v < 2 ^ 31 by omega)]
        rw [hr]
        exact ⟨rfl, a1.to hV1 (fun i h1 h2 => b1 i (by omega) (by omega)), RKI.post (S' := nnd S k v) nnd_00 b3, b2, fun i h1 h2 h3 => by rw [b1 i h1 h2]; exact a2 i h3, rfl⟩
      · skip
        rw [hC.2.1] at h30
        have h5 : ¬ S 0 1 < 5 := fun q => h30 ((i_lt (by omega) (by decide)).mpr q)
        refine e_bipush (v := (-4)) dX10_data_33 rfl ?_
        refine e_reti dX10_data_35 ev_nwi (Nat.le_refl _) (Nat.le_refl _) ?_
        have hr : ndata S x y = (-4, S) := by
          unfold ndata
          rw [cif_t hP, cif_t hW, cif_f h5]
        rw [hr]
        exact ⟨rfl, hC, hK, h28, fun _ _ _ _ => rfl, rfl⟩
    · skip
      rw [q10] at h13
      have h13 := bI_eq0.mp h13
      refine e_bipush (v := (-2)) dX10_data_16 rfl ?_
      refine e_reti dX10_data_18 ev_nwi (Nat.le_refl _) (Nat.le_refl _) ?_
      have hr : ndata S x y = (-2, S) := by
        unfold ndata
        rw [cif_t hP, cif_f h13]
      rw [hr]
      exact ⟨rfl, hC, hK, h28, fun _ _ _ _ => rfl, rfl⟩
  · skip
    rw [q1] at h4
    have h4 := bI_eq0.mp h4
    refine e_iconst (v := (-1)) dX10_data_7 rfl ?_
    refine e_reti dX10_data_8 ev_nwi (Nat.le_refl _) (Nat.le_refl _) ?_
    have hr : ndata S x y = (-1, S) := by
      unfold ndata
      rw [cif_f (fun z => h4 (k6.mpr z))]
    rw [hr]
    exact ⟨rfl, hC, hK, h28, fun _ _ _ _ => rfl, rfl⟩

/-- what newNode does to the reference's cells -/
def NNd (σ σ' : ex_S) (n k v : Nat) (w : Int32) : Prop := Up1 σ σ' 127 5 (nI (n + 1)) ∧ Up1 σ σ' 131 n (nI k) ∧ Up1 σ σ' 132 n (nI v) ∧ Up1 σ σ' 133 n w ∧ Up1 σ σ' 134 n 0 ∧ Up1 σ σ' 135 n 0 ∧ (∀ i, (i < 5 * n ∨ 5 * n + 5 ≤ i) → σ' 136 i = σ 136 i) ∧ (∀ c, c < 5 → σ' 136 (5 * n + c) = if nI c = w then 1 else 0) ∧ (∀ i, (i < 4 * n ∨ 4 * n + 4 ≤ i) → σ' 137 i = σ 137 i) ∧ (∀ c, c < 4 → σ' 137 (4 * n + c) = 0) ∧ ∀ i, (i < 127 ∨ (127 < i ∧ i < 131) ∨ 137 < i) → σ' i = σ i

set_option maxRecDepth 100000 in
theorem c11_newNode {n k v : Nat} {w : Int32} (hn : n < 10) {σ : ex_S} {μ : ex_L}(h5 : σ 127 5 = nI n) : Ci 2 yX11_newNode cX11_newNode 5 (some .int) [.ref 127, .int (nI k), .int (nI v), .int w] TT σ μ (fun z' σ' μ' => z' = nI n ∧ NNd σ σ' n k v w ∧ μ' = μ) := by
  refine Cl_of (by decide +kernel) (Nat.le_of_ble_eq_true rfl) ?_
  show Ev RX11 cX11_newNode 5 2 0 0 "newNode" (some .int) ev_ext _ _ 0 0 0 [(0, .ref 127), (1, .int (nI k)), (2, .int (nI v)), (3, .int w)] [] TT σ μ
  have loop2 : ∀ (m c : Nat) (σ1 : ex_S), c + m = 4 → σ1 127 5 = nI n → Up1 σ σ1 131 n (nI k) → Up1 σ σ1 132 n (nI v) → Up1 σ σ1 133 n w → Up1 σ σ1 134 n 0 → Up1 σ σ1 135 n 0 → (∀ i, (i < 131 ∨ 137 < i) → σ1 i = σ i) →  (∀ i, (i < 5 * n ∨ 5 * n + 5 ≤ i) → σ1 136 i = σ 136 i) → (∀ c, c < 5 → σ1 136 (5 * n + c) = if nI c = w then 1 else 0) → (∀ i, (i < 4 * n ∨ 4 * n + 4 ≤ i) → σ1 137 i = σ 137 i) → (∀ q, q < c → σ1 137 (4 * n + q) = 0) → Ev RX11 cX11_newNode 5 2 0 0 "newNode" (some .int) ev_ext TT.length (fun v9 T9 σ9 μ9 => T9 = TT ∧ ∃ z9, v9 = some (.int z9) ∧ (fun z' σ' μ' => z' = nI n ∧ NNd σ σ' n k v w ∧ μ' = μ) z9 σ9 μ9) 0 0 93 [(0, .ref 127), (1, .int (nI k)), (2, .int (nI v)), (3, .int w), (4, .int (nI c))] [] TT σ1 μ := by
    intro m
    induction m with
    | zero =>
      intro c σ1 hc e0 e1 e2 e3 e4 e5 e6 f1 f2 f3 f4
      obtain rfl : c = 4 := by omega
      refine e_iload dX11_newNode_93 4 rfl ?_
      refine e_iconst (v := 4) dX11_newNode_95 rfl ?_
      refine e_icmp_ge (t := 120) dX11_newNode_96 (by decide) (fun h96 => ?_) (fun h96 => ?_)
      · skip
        refine e_aload_n dX11_newNode_120 rfl 0 rfl ?_
        refine e_dup dX11_newNode_121 rfl ?_
        refine e_getI dX11_newNode_122 lkX11_95 tt_127 rfl ?_
        rw [e0]
        refine e_dup_x1 dX11_newNode_125 rfl rfl ?_
        refine e_iconst (v := 1) dX11_newNode_126 rfl ?_
        refine e_iadd dX11_newNode_127 ?_
        rw [nI_1 n]
        refine e_putI dX11_newNode_128 lkX11_95' tt_127 rfl rfl rfl ?_
        refine e_reti dX11_newNode_131 ev_nwi (Nat.le_refl _) (Nat.le_refl _) ?_
        exact ⟨rfl, ⟨⟨sup_same, fun j hj => by rw [sup_idx hj, e6 127 (by decide)]⟩, ⟨by rw [sup_obj (by decide)]; exact e1.1, fun j hj => by rw [sup_obj (by decide)]; exact e1.2 j hj⟩, ⟨by rw [sup_obj (by decide)]; exact e2.1, fun j hj => by rw [sup_obj (by decide)]; exact e2.2 j hj⟩, ⟨by rw [sup_obj (by decide)]; exact e3.1, fun j hj => by rw [sup_obj (by decide)]; exact e3.2 j hj⟩, ⟨by rw [sup_obj (by decide)]; exact e4.1, fun j hj => by rw [sup_obj (by decide)]; exact e4.2 j hj⟩, ⟨by rw [sup_obj (by decide)]; exact e5.1, fun j hj => by rw [sup_obj (by decide)]; exact e5.2 j hj⟩, fun i hi => by rw [sup_obj (by decide)]; exact f1 i hi, fun q hq => by rw [sup_obj (by decide)]; exact f2 q hq, fun i hi => by rw [sup_obj (by decide)]; exact f3 i hi, fun q hq => by rw [sup_obj (by decide)]; exact f4 q hq, fun i hi => by rw [sup_obj (by omega)]; exact e6 i (by omega)⟩, rfl⟩
      · skip
        exact absurd (show nI 4 ≤ nI 4 from (i_le (by omega) (by omega)).mpr (by omega)) h96
    | succ m ih =>
      intro c σ1 hc e0 e1 e2 e3 e4 e5 e6 f1 f2 f3 f4
      refine e_iload dX11_newNode_93 4 rfl ?_
      refine e_iconst (v := 4) dX11_newNode_95 rfl ?_
      refine e_icmp_ge (t := 120) dX11_newNode_96 (by decide) (fun h96 => ?_) (fun h96 => ?_)
      · skip
        exact absurd ((i_le (by omega) (by omega)).mp (show nI 4 ≤ nI c from h96)) (by omega)
      · skip
        refine e_aload_n dX11_newNode_99 rfl 0 rfl ?_
        refine e_getR dX11_newNode_100 lkX11_39 tt_127 rfl ?_
        refine e_iconst (v := 4) dX11_newNode_103 rfl ?_
        refine e_aload_n dX11_newNode_104 rfl 0 rfl ?_
        refine e_getI dX11_newNode_105 lkX11_95 tt_127 rfl ?_
        rw [e0]
        refine e_imul dX11_newNode_108 ?_
        refine e_iload dX11_newNode_109 4 rfl ?_
        refine e_iadd dX11_newNode_111 ?_
        rw [i_lin4]
        refine e_iconst (v := 0) dX11_newNode_112 rfl ?_
        refine e_iast dX11_newNode_113 tt_137 (vp_in_nI (by omega) (by decide)) ?_
        refine e_iinc (nI (c + 1)) [(0, .ref 127), (1, .int (nI k)), (2, .int (nI v)), (3, .int w), (4, .int (nI (c + 1)))] dX11_newNode_114 4 rfl (nI_1 c) (by decide) rfl ?_
        refine e_goto (t := 93) dX11_newNode_117 (by decide) ?_
        rw [i_cl (show 4 * n + c < 2 ^ 31 by omega)]
        refine ih (c + 1) _ (by omega) (by rw [sup_obj (by decide)]; exact e0) ⟨by rw [sup_obj (by decide)]; exact e1.1, fun j hj => by rw [sup_obj (by decide)]; exact e1.2 j hj⟩ ⟨by rw [sup_obj (by decide)]; exact e2.1, fun j hj => by rw [sup_obj (by decide)]; exact e2.2 j hj⟩ ⟨by rw [sup_obj (by decide)]; exact e3.1, fun j hj => by rw [sup_obj (by decide)]; exact e3.2 j hj⟩ ⟨by rw [sup_obj (by decide)]; exact e4.1, fun j hj => by rw [sup_obj (by decide)]; exact e4.2 j hj⟩ ⟨by rw [sup_obj (by decide)]; exact e5.1, fun j hj => by rw [sup_obj (by decide)]; exact e5.2 j hj⟩ (fun i hi => by rw [sup_obj (by omega)]; exact e6 i hi) (fun i hi => by rw [sup_obj (by decide)]; exact f1 i hi) (fun q hq => by rw [sup_obj (by decide)]; exact f2 q hq) (fun i hi => by rw [sup_idx (by omega)]; exact f3 i hi) (fun q hq => ?_)
        by_cases e : q = c
        · rw [e, sup_same]
        · rw [sup_idx (by omega)]
          exact f4 q (by omega)
  have loop1 : ∀ (m c : Nat) (σ1 : ex_S), c + m = 5 → σ1 127 5 = nI n → Up1 σ σ1 131 n (nI k) → Up1 σ σ1 132 n (nI v) → Up1 σ σ1 133 n w → Up1 σ σ1 134 n 0 → Up1 σ σ1 135 n 0 → (∀ i, (i < 131 ∨ 137 < i) → σ1 i = σ i) →  (∀ i, (i < 5 * n ∨ 5 * n + 5 ≤ i) → σ1 136 i = σ 136 i) → (∀ q, q < c → σ1 136 (5 * n + q) = if nI q = w then 1 else 0) → σ1 137 = σ 137 → Ev RX11 cX11_newNode 5 2 0 0 "newNode" (some .int) ev_ext TT.length (fun v9 T9 σ9 μ9 => T9 = TT ∧ ∃ z9, v9 = some (.int z9) ∧ (fun z' σ' μ' => z' = nI n ∧ NNd σ σ' n k v w ∧ μ' = μ) z9 σ9 μ9) 0 0 53 [(0, .ref 127), (1, .int (nI k)), (2, .int (nI v)), (3, .int w), (4, .int (nI c))] [] TT σ1 μ := by
    intro m
    induction m with
    | zero =>
      intro c σ1 hc e0 e1 e2 e3 e4 e5 e6 f1 f2 f3
      obtain rfl : c = 5 := by omega
      refine e_iload dX11_newNode_53 4 rfl ?_
      refine e_iconst (v := 5) dX11_newNode_55 rfl ?_
      refine e_icmp_ge (t := 90) dX11_newNode_56 (by decide) (fun h56 => ?_) (fun h56 => ?_)
      · skip
        refine e_iconst (v := 0) dX11_newNode_90 rfl ?_
        refine e_istore [(0, .ref 127), (1, .int (nI k)), (2, .int (nI v)), (3, .int w), (4, .int (nI 0))] dX11_newNode_91 (by decide) rfl ?_
        exact loop2 4 0 σ1 (by omega) e0 e1 e2 e3 e4 e5 e6 f1 f2 (fun i _ => by rw [f3]) (fun q hq => absurd hq (by omega))
      · skip
        exact absurd (show nI 5 ≤ nI 5 from (i_le (by omega) (by omega)).mpr (by omega)) h56
    | succ m ih =>
      intro c σ1 hc e0 e1 e2 e3 e4 e5 e6 f1 f2 f3
      refine e_iload dX11_newNode_53 4 rfl ?_
      refine e_iconst (v := 5) dX11_newNode_55 rfl ?_
      refine e_icmp_ge (t := 90) dX11_newNode_56 (by decide) (fun h56 => ?_) (fun h56 => ?_)
      · skip
        exact absurd ((i_le (by omega) (by omega)).mp (show nI 5 ≤ nI c from h56)) (by omega)
      · skip
        refine e_aload_n dX11_newNode_59 rfl 0 rfl ?_
        refine e_getR dX11_newNode_60 lkX11_36 tt_127 rfl ?_
        refine e_iconst (v := 5) dX11_newNode_63 rfl ?_
        refine e_aload_n dX11_newNode_64 rfl 0 rfl ?_
        refine e_getI dX11_newNode_65 lkX11_95 tt_127 rfl ?_
        rw [e0]
        refine e_imul dX11_newNode_68 ?_
        refine e_iload dX11_newNode_69 4 rfl ?_
        refine e_iadd dX11_newNode_71 ?_
        rw [i_lin5]
        refine e_iload dX11_newNode_72 4 rfl ?_
        refine e_iload_n dX11_newNode_74 rfl 3 rfl ?_
        refine e_icmp_ne (t := 82) dX11_newNode_75 (by decide) (fun h75 => ?_) (fun h75 => ?_)
        · skip
          skip
          refine e_iconst (v := 0) dX11_newNode_82 rfl ?_
          refine e_iast dX11_newNode_83 tt_136 (vp_in_nI (by omega) (by decide)) ?_
          refine e_iinc (nI (c + 1)) [(0, .ref 127), (1, .int (nI k)), (2, .int (nI v)), (3, .int w), (4, .int (nI (c + 1)))] dX11_newNode_84 4 rfl (nI_1 c) (by decide) rfl ?_
          refine e_goto (t := 53) dX11_newNode_87 (by decide) ?_
          rw [i_cl (show 5 * n + c < 2 ^ 31 by omega)]
          refine ih (c + 1) _ (by omega) (by rw [sup_obj (by decide)]; exact e0) ⟨by rw [sup_obj (by decide)]; exact e1.1, fun j hj => by rw [sup_obj (by decide)]; exact e1.2 j hj⟩ ⟨by rw [sup_obj (by decide)]; exact e2.1, fun j hj => by rw [sup_obj (by decide)]; exact e2.2 j hj⟩ ⟨by rw [sup_obj (by decide)]; exact e3.1, fun j hj => by rw [sup_obj (by decide)]; exact e3.2 j hj⟩ ⟨by rw [sup_obj (by decide)]; exact e4.1, fun j hj => by rw [sup_obj (by decide)]; exact e4.2 j hj⟩ ⟨by rw [sup_obj (by decide)]; exact e5.1, fun j hj => by rw [sup_obj (by decide)]; exact e5.2 j hj⟩ (fun i hi => by rw [sup_obj (by omega)]; exact e6 i hi) (fun i hi => by rw [sup_idx (by omega)]; exact f1 i hi) (fun q hq => ?_) (by rw [sup_obj (by decide)]; exact f3)
          by_cases e : q = c
          · rw [e, sup_same, if_neg h75]
          · rw [sup_idx (by omega)]
            exact f2 q (by omega)
        · skip
          skip
          refine e_iconst (v := 1) dX11_newNode_78 rfl ?_
          refine e_goto (t := 83) dX11_newNode_79 (by decide) ?_
          refine e_iast dX11_newNode_83 tt_136 (vp_in_nI (by omega) (by decide)) ?_
          refine e_iinc (nI (c + 1)) [(0, .ref 127), (1, .int (nI k)), (2, .int (nI v)), (3, .int w), (4, .int (nI (c + 1)))] dX11_newNode_84 4 rfl (nI_1 c) (by decide) rfl ?_
          refine e_goto (t := 53) dX11_newNode_87 (by decide) ?_
          rw [i_cl (show 5 * n + c < 2 ^ 31 by omega)]
          refine ih (c + 1) _ (by omega) (by rw [sup_obj (by decide)]; exact e0) ⟨by rw [sup_obj (by decide)]; exact e1.1, fun j hj => by rw [sup_obj (by decide)]; exact e1.2 j hj⟩ ⟨by rw [sup_obj (by decide)]; exact e2.1, fun j hj => by rw [sup_obj (by decide)]; exact e2.2 j hj⟩ ⟨by rw [sup_obj (by decide)]; exact e3.1, fun j hj => by rw [sup_obj (by decide)]; exact e3.2 j hj⟩ ⟨by rw [sup_obj (by decide)]; exact e4.1, fun j hj => by rw [sup_obj (by decide)]; exact e4.2 j hj⟩ ⟨by rw [sup_obj (by decide)]; exact e5.1, fun j hj => by rw [sup_obj (by decide)]; exact e5.2 j hj⟩ (fun i hi => by rw [sup_obj (by omega)]; exact e6 i hi) (fun i hi => by rw [sup_idx (by omega)]; exact f1 i hi) (fun q hq => ?_) (by rw [sup_obj (by decide)]; exact f3)
          by_cases e : q = c
          · rw [e, sup_same, if_pos h75]
          · rw [sup_idx (by omega)]
            exact f2 q (by omega)
  refine e_aload_n dX11_newNode_0 rfl 0 rfl ?_
  refine e_getR dX11_newNode_1 lkX11_21 tt_127 rfl ?_
  refine e_aload_n dX11_newNode_4 rfl 0 rfl ?_
  refine e_getI dX11_newNode_5 lkX11_95 tt_127 rfl ?_
  rw [h5]
  refine e_iload_n dX11_newNode_8 rfl 1 rfl ?_
  refine e_iast dX11_newNode_9 tt_131 (vp_in_nI (by omega) (by decide)) ?_
  refine e_aload_n dX11_newNode_10 rfl 0 rfl ?_
  refine e_getR dX11_newNode_11 lkX11_24 tt_127 rfl ?_
  refine e_aload_n dX11_newNode_14 rfl 0 rfl ?_
  refine e_getI dX11_newNode_15 lkX11_95 tt_127 rfl ?_
  rw [sup_obj (show (127 : Nat) ≠ 131 by decide), h5]
  refine e_iload_n dX11_newNode_18 rfl 2 rfl ?_
  refine e_iast dX11_newNode_19 tt_132 (vp_in_nI (by omega) (by decide)) ?_
  refine e_aload_n dX11_newNode_20 rfl 0 rfl ?_
  refine e_getR dX11_newNode_21 lkX11_27 tt_127 rfl ?_
  refine e_aload_n dX11_newNode_24 rfl 0 rfl ?_
  refine e_getI dX11_newNode_25 lkX11_95 tt_127 rfl ?_
  rw [sup_obj (show (127 : Nat) ≠ 132 by decide), sup_obj (show (127 : Nat) ≠ 131 by decide), h5]
  refine e_iload_n dX11_newNode_28 rfl 3 rfl ?_
  refine e_iast dX11_newNode_29 tt_133 (vp_in_nI (by omega) (by decide)) ?_
  refine e_aload_n dX11_newNode_30 rfl 0 rfl ?_
  refine e_getR dX11_newNode_31 lkX11_30 tt_127 rfl ?_
  refine e_aload_n dX11_newNode_34 rfl 0 rfl ?_
  refine e_getI dX11_newNode_35 lkX11_95 tt_127 rfl ?_
  rw [sup_obj (show (127 : Nat) ≠ 133 by decide), sup_obj (show (127 : Nat) ≠ 132 by decide), sup_obj (show (127 : Nat) ≠ 131 by decide), h5]
  refine e_iconst (v := 0) dX11_newNode_38 rfl ?_
  refine e_iast dX11_newNode_39 tt_134 (vp_in_nI (by omega) (by decide)) ?_
  refine e_aload_n dX11_newNode_40 rfl 0 rfl ?_
  refine e_getR dX11_newNode_41 lkX11_33 tt_127 rfl ?_
  refine e_aload_n dX11_newNode_44 rfl 0 rfl ?_
  refine e_getI dX11_newNode_45 lkX11_95 tt_127 rfl ?_
  rw [sup_obj (show (127 : Nat) ≠ 134 by decide), sup_obj (show (127 : Nat) ≠ 133 by decide), sup_obj (show (127 : Nat) ≠ 132 by decide), sup_obj (show (127 : Nat) ≠ 131 by decide), h5]
  refine e_iconst (v := 0) dX11_newNode_48 rfl ?_
  refine e_iast dX11_newNode_49 tt_135 (vp_in_nI (by omega) (by decide)) ?_
  refine e_iconst (v := 0) dX11_newNode_50 rfl ?_
  refine e_istore [(0, .ref 127), (1, .int (nI k)), (2, .int (nI v)), (3, .int w), (4, .int (nI 0))] dX11_newNode_51 (by decide) rfl ?_
  rw [i_cl (show n < 2 ^ 31 by omega)]
  exact loop1 5 0 _ (by omega) (by rw [sup_obj (by decide), sup_obj (by decide), sup_obj (by decide), sup_obj (by decide), sup_obj (by decide)]; exact h5) ⟨by rw [sup_obj (by decide), sup_obj (by decide), sup_obj (by decide), sup_obj (by decide), sup_same], fun j hj => by rw [sup_obj (by decide), sup_obj (by decide), sup_obj (by decide), sup_obj (by decide), sup_idx hj]⟩ ⟨by rw [sup_obj (by decide), sup_obj (by decide), sup_obj (by decide), sup_same], fun j hj => by rw [sup_obj (by decide), sup_obj (by decide), sup_obj (by decide), sup_idx hj, sup_obj (by decide)]⟩ ⟨by rw [sup_obj (by decide), sup_obj (by decide), sup_same], fun j hj => by rw [sup_obj (by decide), sup_obj (by decide), sup_idx hj, sup_obj (by decide), sup_obj (by decide)]⟩ ⟨by rw [sup_obj (by decide), sup_same], fun j hj => by rw [sup_obj (by decide), sup_idx hj, sup_obj (by decide), sup_obj (by decide), sup_obj (by decide)]⟩ ⟨by rw [sup_same], fun j hj => by rw [sup_idx hj, sup_obj (by decide), sup_obj (by decide), sup_obj (by decide), sup_obj (by decide)]⟩ (fun i hi => by rw [sup_obj (by omega), sup_obj (by omega), sup_obj (by omega), sup_obj (by omega), sup_obj (by omega)]) (fun i hi => by rw [sup_obj (by decide), sup_obj (by decide), sup_obj (by decide), sup_obj (by decide), sup_obj (by decide)]) (fun q hq => absurd hq (by omega)) (by rw [sup_obj (by decide), sup_obj (by decide), sup_obj (by decide), sup_obj (by decide), sup_obj (by decide)])

theorem nib_pow {d c : Nat} : ∀ d, d < 5 → ∀ c, c < 5 → (if nI c = nI d then (1 : Int32) else 0) = nI (nib (2 ^ (4 * d)) c) := by decide +kernel

set_option maxRecDepth 100000 in
theorem c11_data {S : ns_T} (hV : VS S) {x y : Int32} {σ : ex_S} {μ : ex_L}(hR : NR σ S) : Ci 4 yX11_data cX11_data 3 (some .int) [.ref 127, .int x, .int y] TT σ μ (fun z' σ' μ' => z' = (ndata S x y).1 ∧ NR σ' (ndata S x y).2 ∧ (∀ i, (i < 127 ∨ (127 < i ∧ i < 131) ∨ 139 < i) → σ' i = σ i) ∧ (∀ k, k ≠ 5 → k ≠ 6 → k ≠ 7 → σ' 127 k = σ 127 k) ∧ μ' = μ) := by
  refine Cl_of (by decide +kernel) (Nat.le_of_ble_eq_true rfl) ?_
  show Ev RX11 cX11_data 3 4 0 0 "data" (some .int) ev_ext _ _ 0 0 0 [(0, .ref 127), (1, .int x), (2, .int y)] [] TT σ μ
  have hn := hV.1
  have hd := hV.2.1
  have h54 := hV.2.2.2.1
  refine e_iload_n dX11_data_0 rfl 1 rfl ?_
  refine e_iconst (v := 0) dX11_data_1 rfl ?_
  refine e_bipush (v := 6) dX11_data_2 rfl ?_
  refine e_callSi dX11_data_4 cvX11_99 rfl (c11_within x 0 6) (Nat.le_of_ble_eq_true rfl) (Nat.le_refl _) (Nat.le_refl _) rfl (Nat.le_of_ble_eq_true rfl) (fun r4 s4 m4 q4 => ?_)
  obtain ⟨q4, e4, g4⟩ := q4
  rw [e4, g4]
  clear e4 g4 s4 m4
  refine e_if_ne (t := 12) dX11_data_7 (by decide) (fun h7 => ?_) (fun h7 => ?_)
  · skip
    rw [q4, bI_eq0] at h7
    have hP := Classical.not_not.mp h7
    refine e_iload_n dX11_data_12 rfl 2 rfl ?_
    refine e_iconst (v := 0) dX11_data_13 rfl ?_
    refine e_bipush (v := 9) dX11_data_14 rfl ?_
    refine e_callSi dX11_data_16 cvX11_99 rfl (c11_within y 0 9) (Nat.le_of_ble_eq_true rfl) (Nat.le_refl _) (Nat.le_refl _) rfl (Nat.le_of_ble_eq_true rfl) (fun r16 s16 m16 q16 => ?_)
    obtain ⟨q16, e16, g16⟩ := q16
    rw [e16, g16]
    clear e16 g16 s16 m16
    refine e_if_ne (t := 25) dX11_data_19 (by decide) (fun h19 => ?_) (fun h19 => ?_)
    · skip
      rw [q16, bI_eq0] at h19
      have hW := Classical.not_not.mp h19
      refine e_aload_n dX11_data_25 rfl 0 rfl ?_
      refine e_getI dX11_data_26 lkX11_134 tt_127 rfl ?_
      refine e_iconst (v := 5) dX11_data_29 rfl ?_
      refine e_icmp_ne (t := 36) dX11_data_30 (by decide) (fun h30 => ?_) (fun h30 => ?_)
      · skip
        rw [hR.2.1] at h30
        have h5 : S 0 1 < 5 := by
          have : ¬ S 0 1 = 5 := fun q => h30 (by rw [q]; rfl)
          omega
        obtain ⟨k, hk, rfl⟩ := i_of (x := x) (m := 6) (by omega) hP.1 (show _ ≤ nI (6) from hP.2)
        obtain ⟨v, hv, rfl⟩ := i_of (x := y) (m := 9) (by omega) hW.1 (show _ ≤ nI (9) from hW.2)
        refine e_aload_n dX11_data_36 rfl 0 rfl ?_
        refine e_getR dX11_data_37 lkX11_42 tt_127 rfl ?_
        refine e_aload_n dX11_data_40 rfl 0 rfl ?_
        refine e_getI dX11_data_41 lkX11_134 tt_127 rfl ?_
        rw [hR.2.1]
        refine e_iconst (v := 0) dX11_data_44 rfl ?_
        refine e_iast dX11_data_45 tt_138 (vp_in_nI (by omega) (by decide)) ?_
        refine e_aload_n dX11_data_46 rfl 0 rfl ?_
        refine e_getR dX11_data_47 lkX11_45 tt_127 rfl ?_
        refine e_aload_n dX11_data_50 rfl 0 rfl ?_
        refine e_getI dX11_data_51 lkX11_134 tt_127 rfl ?_
        rw [sup_obj (show (127 : Nat) ≠ 138 by decide), hR.2.1]
        refine e_aload_n dX11_data_54 rfl 0 rfl ?_
        refine e_getI dX11_data_55 lkX11_95 tt_127 rfl ?_
        rw [sup_obj (show (127 : Nat) ≠ 138 by decide), hR.1]
        refine e_iast dX11_data_58 tt_139 (vp_in_nI (by omega) (by decide)) ?_
        refine e_aload_n dX11_data_59 rfl 0 rfl ?_
        refine e_iload_n dX11_data_60 rfl 1 rfl ?_
        refine e_iload_n dX11_data_61 rfl 2 rfl ?_
        refine e_aload_n dX11_data_62 rfl 0 rfl ?_
        refine e_dup dX11_data_63 rfl ?_
        refine e_getI dX11_data_64 lkX11_134 tt_127 rfl ?_
        rw [sup_obj (show (127 : Nat) ≠ 139 by decide), sup_obj (show (127 : Nat) ≠ 138 by decide), hR.2.1]
        refine e_dup_x1 dX11_data_67 rfl rfl ?_
        refine e_iconst (v := 1) dX11_data_68 rfl ?_
        refine e_iadd dX11_data_69 ?_
        rw [nI_1 (S 0 1)]
        refine e_putI dX11_data_70 lkX11_134' tt_127 rfl rfl rfl ?_
        refine e_callVi dX11_data_73 cvX11_137 rfl tt_127 rfl (c11_newNode (n := S 0 0) (k := k) (v := v) (w := nI (S 0 1)) (by omega) (by rw [sup_idx (by decide), sup_obj (by decide), sup_obj (by decide)]; exact hR.1)) (Nat.le_of_ble_eq_true rfl) (Nat.le_refl _) (Nat.le_refl _) rfl (Nat.le_of_ble_eq_true rfl) (fun r73 s73 m73 q73 => ?_)
        obtain ⟨q73, ⟨n0, n1, n2, n3, n4, n5, n6, n7, n8, n9, na⟩, a3⟩ := q73
        rw [a3]
        refine e_reti dX11_data_76 ev_nwi (Nat.le_refl _) (Nat.le_refl _) ?_
        have hr : ndata S (nI k) (nI v) = (nI (S 0 0), nnd S k v) := by
          unfold ndata
          rw [cif_t hP, cif_t hW, cif_t h5, i_cl (show k < 2 ^ 31 by omega), i_cl (show v < 2 ^ 31 by omega)]
        rw [hr]
        rw [i_cl (show S 0 1 < 2 ^ 31 by omega)] at *
        refine ⟨q73, NR.dat hV (by omega) hR n0.1 (by rw [n0.2 6 (by decide), sup_same]) (by rw [n0.2 7 (by decide), sup_idx (by decide), sup_obj (by decide), sup_obj (by decide)]) ?_ ?_ ?_ ?_ ?_ (fun i hi => ?_) (fun c hc => ?_) (fun i hi => ?_) n9 ⟨?_, fun j hj => ?_⟩ ⟨?_, fun j hj => ?_⟩, fun i hi => ?_, fun k h1 h2 h3 => ?_, rfl⟩
        · exact ⟨n1.1, fun j hj => by rw [n1.2 j hj, sup_obj (by decide), sup_obj (by decide), sup_obj (by decide)]⟩
        · exact ⟨n2.1, fun j hj => by rw [n2.2 j hj, sup_obj (by decide), sup_obj (by decide), sup_obj (by decide)]⟩
        · exact ⟨n3.1, fun j hj => by rw [n3.2 j hj, sup_obj (by decide), sup_obj (by decide), sup_obj (by decide)]⟩
        · exact ⟨n4.1, fun j hj => by rw [n4.2 j hj, sup_obj (by decide), sup_obj (by decide), sup_obj (by decide)]⟩
        · exact ⟨n5.1, fun j hj => by rw [n5.2 j hj, sup_obj (by decide), sup_obj (by decide), sup_obj (by decide)]⟩
        · rw [n6 i (Or.inl hi), sup_obj (by decide), sup_obj (by decide), sup_obj (by decide)]
        · rw [n7 c hc]
          exact nib_pow (d := 0) (c := 0) _ h5 c hc
        · rw [n8 i (Or.inl hi), sup_obj (by decide), sup_obj (by decide), sup_obj (by decide)]
        · rw [na 138 (by decide), sup_obj (by decide), sup_obj (by decide), sup_same]
        · rw [na 138 (by decide), sup_obj (by decide), sup_obj (by decide), sup_idx hj]
        · rw [na 139 (by decide), sup_obj (by decide), sup_same]
        · rw [na 139 (by decide), sup_obj (by decide), sup_idx hj, sup_obj (by decide)]
        · rw [na i (by omega), sup_obj (by omega), sup_obj (by omega), sup_obj (by omega)]
        · rw [n0.2 k h1, sup_idx h2, sup_obj (by decide), sup_obj (by decide)]
      · skip
        rw [hR.2.1] at h30
        have h5 : ¬ S 0 1 < 5 := by
          have := (i_eq (b := 5) (by omega) (by decide)).mp h30
          omega
        refine e_bipush (v := (-4)) dX11_data_33 rfl ?_
        refine e_reti dX11_data_35 ev_nwi (Nat.le_refl _) (Nat.le_refl _) ?_
        have hr : ndata S x y = (-4, S) := by
          unfold ndata
          rw [cif_t hP, cif_t hW, cif_f h5]
        rw [hr]
        exact ⟨rfl, hR, fun _ _ => rfl, fun _ _ _ _ => rfl, rfl⟩
    · skip
      rw [q16] at h19
      have h19 := bI_eq0.mp h19
      refine e_bipush (v := (-2)) dX11_data_22 rfl ?_
      refine e_reti dX11_data_24 ev_nwi (Nat.le_refl _) (Nat.le_refl _) ?_
      have hr : ndata S x y = (-2, S) := by
        unfold ndata
        rw [cif_t hP, cif_f h19]
      rw [hr]
      exact ⟨rfl, hR, fun _ _ => rfl, fun _ _ _ _ => rfl, rfl⟩
  · skip
    rw [q4] at h7
    have h7 := bI_eq0.mp h7
    refine e_iconst (v := (-1)) dX11_data_10 rfl ?_
    refine e_reti dX11_data_11 ev_nwi (Nat.le_refl _) (Nat.le_refl _) ?_
    have hr : ndata S x y = (-1, S) := by
      unfold ndata
      rw [cif_f h7]
    rw [hr]
    exact ⟨rfl, hR, fun _ _ => rfl, fun _ _ _ _ => rfl, rfl⟩
