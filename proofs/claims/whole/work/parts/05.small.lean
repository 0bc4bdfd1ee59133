theorem vp_le {x m : Int32} {N : Nat} (h0 : 0 ≤ x) (h : x ≤ m) (hm : m.toInt < N) : vp_in x N := by
  rw [vp_in_iff]
  have h1 := Int32.le_iff_toInt_le.mp h0
  have h2 := Int32.le_iff_toInt_le.mp h
  have h3 : (0 : Int32).toInt = 0 := by decide
  omega
theorem vp_lt {x m : Int32} {N : Nat} (h0 : 0 ≤ x) (h : x < m) (hm : m.toInt ≤ N) : vp_in x N := by
  rw [vp_in_iff]
  have h1 := Int32.le_iff_toInt_le.mp h0
  have h2 := Int32.lt_iff_toInt_lt.mp h
  have h3 : (0 : Int32).toInt = 0 := by decide
  omega
theorem i32_nlt {x y : Int32} (h : ¬ x < y) : y ≤ x := Int32.not_lt.mp h
theorem i32_nle {x y : Int32} (h : ¬ x ≤ y) : y < x := Int32.not_le.mp h

set_option maxRecDepth 100000 in
theorem c10_isNumber {σ : ex_S} {μ : ex_L} (x : Int32) : Ci 2 yX10_isNumber cX10_isNumber 1 (some .boolean) [.int x] TT σ μ (fun z' σ' μ' => z' = bI (0 ≤ x ∧ x ≤ 15) ∧ σ' = σ ∧ μ' = μ) := by
  refine Cl_of (by decide +kernel) (Nat.le_of_ble_eq_true rfl) ?_
  show Ev RX10 cX10_isNumber 1 2 0 0 "isNumber" (some .boolean) ev_ext _ _ 0 0 0 [(0, .int x)] [] TT σ μ
  refine e_iload_n dX10_isNumber_0 rfl 0 rfl ?_
  refine e_if_lt (t := 14) dX10_isNumber_1 (by decide) (fun h1 => ?_) (fun h1 => ?_)
  · skip
    refine e_iconst (v := 0) dX10_isNumber_14 rfl ?_
    refine e_reti dX10_isNumber_15 ev_nw0 (Nat.le_refl _) (Nat.le_refl _) ?_
    refine ⟨?_, rfl, rfl⟩
    first
      | (exact (bI_f (by simp only [Int32.le_iff_toInt_le, Int32.lt_iff_toInt_lt] at *; omega)).symm)
      | (simp_all [bI]; done)
  · skip
    refine e_iload_n dX10_isNumber_4 rfl 0 rfl ?_
    refine e_bipush (v := 15) dX10_isNumber_5 rfl ?_
    refine e_icmp_gt (t := 14) dX10_isNumber_7 (by decide) (fun h7 => ?_) (fun h7 => ?_)
    · skip
      refine e_iconst (v := 0) dX10_isNumber_14 rfl ?_
      refine e_reti dX10_isNumber_15 ev_nw0 (Nat.le_refl _) (Nat.le_refl _) ?_
      refine ⟨?_, rfl, rfl⟩
      first
        | (exact (bI_f (by simp only [Int32.le_iff_toInt_le, Int32.lt_iff_toInt_lt] at *; omega)).symm)
        | (simp_all [bI]; done)
    · skip
      refine e_iconst (v := 1) dX10_isNumber_10 rfl ?_
      refine e_goto (t := 15) dX10_isNumber_11 (by decide) ?_
      refine e_reti dX10_isNumber_15 ev_nw1 (Nat.le_refl _) (Nat.le_refl _) ?_
      refine ⟨?_, rfl, rfl⟩
      first
        | (exact (bI_t (by simp only [Int32.le_iff_toInt_le, Int32.lt_iff_toInt_lt] at *; omega)).symm)
        | (simp_all [bI]; done)

set_option maxRecDepth 100000 in
theorem c10_isDigit {σ : ex_S} {μ : ex_L} (x : Int32) : Ci 2 yX10_isDigit cX10_isDigit 1 (some .boolean) [.int x] TT σ μ (fun z' σ' μ' => z' = bI (0 ≤ x ∧ x ≤ 9) ∧ σ' = σ ∧ μ' = μ) := by
  refine Cl_of (by decide +kernel) (Nat.le_of_ble_eq_true rfl) ?_
  show Ev RX10 cX10_isDigit 1 2 0 0 "isDigit" (some .boolean) ev_ext _ _ 0 0 0 [(0, .int x)] [] TT σ μ
  refine e_iload_n dX10_isDigit_0 rfl 0 rfl ?_
  refine e_if_lt (t := 14) dX10_isDigit_1 (by decide) (fun h1 => ?_) (fun h1 => ?_)
  · skip
    refine e_iconst (v := 0) dX10_isDigit_14 rfl ?_
    refine e_reti dX10_isDigit_15 ev_nw0 (Nat.le_refl _) (Nat.le_refl _) ?_
    refine ⟨?_, rfl, rfl⟩
    first
      | (exact (bI_f (by simp only [Int32.le_iff_toInt_le, Int32.lt_iff_toInt_lt] at *; omega)).symm)
      | (simp_all [bI]; done)
  · skip
    refine e_iload_n dX10_isDigit_4 rfl 0 rfl ?_
    refine e_bipush (v := 9) dX10_isDigit_5 rfl ?_
    refine e_icmp_gt (t := 14) dX10_isDigit_7 (by decide) (fun h7 => ?_) (fun h7 => ?_)
    · skip
      refine e_iconst (v := 0) dX10_isDigit_14 rfl ?_
      refine e_reti dX10_isDigit_15 ev_nw0 (Nat.le_refl _) (Nat.le_refl _) ?_
      refine ⟨?_, rfl, rfl⟩
      first
        | (exact (bI_f (by simp only [Int32.le_iff_toInt_le, Int32.lt_iff_toInt_lt] at *; omega)).symm)
        | (simp_all [bI]; done)
    · skip
      refine e_iconst (v := 1) dX10_isDigit_10 rfl ?_
      refine e_goto (t := 15) dX10_isDigit_11 (by decide) ?_
      refine e_reti dX10_isDigit_15 ev_nw1 (Nat.le_refl _) (Nat.le_refl _) ?_
      refine ⟨?_, rfl, rfl⟩
      first
        | (exact (bI_t (by simp only [Int32.le_iff_toInt_le, Int32.lt_iff_toInt_lt] at *; omega)).symm)
        | (simp_all [bI]; done)

set_option maxRecDepth 100000 in
theorem c10_isSetSize {σ : ex_S} {μ : ex_L} (x : Int32) : Ci 2 yX10_isSetSize cX10_isSetSize 1 (some .boolean) [.int x] TT σ μ (fun z' σ' μ' => z' = bI (0 ≤ x ∧ x ≤ 10) ∧ σ' = σ ∧ μ' = μ) := by
  refine Cl_of (by decide +kernel) (Nat.le_of_ble_eq_true rfl) ?_
  show Ev RX10 cX10_isSetSize 1 2 0 0 "isSetSize" (some .boolean) ev_ext _ _ 0 0 0 [(0, .int x)] [] TT σ μ
  refine e_iload_n dX10_isSetSize_0 rfl 0 rfl ?_
  refine e_if_lt (t := 14) dX10_isSetSize_1 (by decide) (fun h1 => ?_) (fun h1 => ?_)
  · skip
    refine e_iconst (v := 0) dX10_isSetSize_14 rfl ?_
    refine e_reti dX10_isSetSize_15 ev_nw0 (Nat.le_refl _) (Nat.le_refl _) ?_
    refine ⟨?_, rfl, rfl⟩
    first
      | (exact (bI_f (by simp only [Int32.le_iff_toInt_le, Int32.lt_iff_toInt_lt] at *; omega)).symm)
      | (simp_all [bI]; done)
  · skip
    refine e_iload_n dX10_isSetSize_4 rfl 0 rfl ?_
    refine e_bipush (v := 10) dX10_isSetSize_5 rfl ?_
    refine e_icmp_gt (t := 14) dX10_isSetSize_7 (by decide) (fun h7 => ?_) (fun h7 => ?_)
    · skip
      refine e_iconst (v := 0) dX10_isSetSize_14 rfl ?_
      refine e_reti dX10_isSetSize_15 ev_nw0 (Nat.le_refl _) (Nat.le_refl _) ?_
      refine ⟨?_, rfl, rfl⟩
      first
        | (exact (bI_f (by simp only [Int32.le_iff_toInt_le, Int32.lt_iff_toInt_lt] at *; omega)).symm)
        | (simp_all [bI]; done)
    · skip
      refine e_iconst (v := 1) dX10_isSetSize_10 rfl ?_
      refine e_goto (t := 15) dX10_isSetSize_11 (by decide) ?_
      refine e_reti dX10_isSetSize_15 ev_nw1 (Nat.le_refl _) (Nat.le_refl _) ?_
      refine ⟨?_, rfl, rfl⟩
      first
        | (exact (bI_t (by simp only [Int32.le_iff_toInt_le, Int32.lt_iff_toInt_lt] at *; omega)).symm)
        | (simp_all [bI]; done)

set_option maxRecDepth 100000 in
theorem c10_isPart {σ : ex_S} {μ : ex_L} (x : Int32) : Ci 2 yX10_isPart cX10_isPart 1 (some .boolean) [.int x] TT σ μ (fun z' σ' μ' => z' = bI (x = 0 ∨ x = 1) ∧ σ' = σ ∧ μ' = μ) := by
  refine Cl_of (by decide +kernel) (Nat.le_of_ble_eq_true rfl) ?_
  show Ev RX10 cX10_isPart 1 2 0 0 "isPart" (some .boolean) ev_ext _ _ 0 0 0 [(0, .int x)] [] TT σ μ
  refine e_iload_n dX10_isPart_0 rfl 0 rfl ?_
  refine e_if_eq (t := 9) dX10_isPart_1 (by decide) (fun h1 => ?_) (fun h1 => ?_)
  · skip
    refine e_iconst (v := 1) dX10_isPart_9 rfl ?_
    refine e_goto (t := 14) dX10_isPart_10 (by decide) ?_
    refine e_reti dX10_isPart_14 ev_nw1 (Nat.le_refl _) (Nat.le_refl _) ?_
    refine ⟨?_, rfl, rfl⟩
    first
      | (exact (bI_t (by simp only [Int32.le_iff_toInt_le, Int32.lt_iff_toInt_lt] at *; omega)).symm)
      | (simp_all [bI]; done)
  · skip
    refine e_iload_n dX10_isPart_4 rfl 0 rfl ?_
    refine e_iconst (v := 1) dX10_isPart_5 rfl ?_
    refine e_icmp_ne (t := 13) dX10_isPart_6 (by decide) (fun h6 => ?_) (fun h6 => ?_)
    · skip
      refine e_iconst (v := 0) dX10_isPart_13 rfl ?_
      refine e_reti dX10_isPart_14 ev_nw0 (Nat.le_refl _) (Nat.le_refl _) ?_
      refine ⟨?_, rfl, rfl⟩
      first
        | (exact (bI_f (by simp only [Int32.le_iff_toInt_le, Int32.lt_iff_toInt_lt] at *; omega)).symm)
        | (simp_all [bI]; done)
    · skip
      refine e_iconst (v := 1) dX10_isPart_9 rfl ?_
      refine e_goto (t := 14) dX10_isPart_10 (by decide) ?_
      refine e_reti dX10_isPart_14 ev_nw1 (Nat.le_refl _) (Nat.le_refl _) ?_
      refine ⟨?_, rfl, rfl⟩
      first
        | (exact (bI_t (by simp only [Int32.le_iff_toInt_le, Int32.lt_iff_toInt_lt] at *; omega)).symm)
        | (simp_all [bI]; done)

set_option maxRecDepth 100000 in
theorem c10_isKind {σ : ex_S} {μ : ex_L} (x : Int32) : Ci 2 yX10_isKind cX10_isKind 1 (some .boolean) [.int x] TT σ μ (fun z' σ' μ' => z' = bI (0 ≤ x ∧ x < 7) ∧ σ' = σ ∧ μ' = μ) := by
  refine Cl_of (by decide +kernel) (Nat.le_of_ble_eq_true rfl) ?_
  show Ev RX10 cX10_isKind 1 2 0 0 "isKind" (some .boolean) ev_ext _ _ 0 0 0 [(0, .int x)] [] TT σ μ
  refine e_iload_n dX10_isKind_0 rfl 0 rfl ?_
  refine e_if_lt (t := 16) dX10_isKind_1 (by decide) (fun h1 => ?_) (fun h1 => ?_)
  · skip
    refine e_iconst (v := 0) dX10_isKind_16 rfl ?_
    refine e_reti dX10_isKind_17 ev_nw0 (Nat.le_refl _) (Nat.le_refl _) ?_
    try simp only [show Int32.ofNat 7 = 7 from rfl] at h9
    refine ⟨?_, rfl, rfl⟩
    first
      | (exact (bI_f (by simp only [Int32.le_iff_toInt_le, Int32.lt_iff_toInt_lt] at *; omega)).symm)
      | (simp_all [bI]; done)
  · skip
    refine e_iload_n dX10_isKind_4 rfl 0 rfl ?_
    refine e_above dX10_isKind_5 kfX10_161 ?_
    refine e_xlen dX10_isKind_8 (List.mem_singleton_self _) ?_
    refine e_icmp_ge (t := 16) dX10_isKind_9 (by decide) (fun h9 => ?_) (fun h9 => ?_)
    · skip
      refine e_iconst (v := 0) dX10_isKind_16 rfl ?_
      refine e_reti dX10_isKind_17 ev_nw0 (Nat.le_refl _) (Nat.le_refl _) ?_
      try simp only [show Int32.ofNat 7 = 7 from rfl] at h9
      refine ⟨?_, rfl, rfl⟩
      first
        | (exact (bI_f (by simp only [Int32.le_iff_toInt_le, Int32.lt_iff_toInt_lt] at *; omega)).symm)
        | (simp_all [bI]; done)
    · skip
      refine e_iconst (v := 1) dX10_isKind_12 rfl ?_
      refine e_goto (t := 17) dX10_isKind_13 (by decide) ?_
      refine e_reti dX10_isKind_17 ev_nw1 (Nat.le_refl _) (Nat.le_refl _) ?_
      try simp only [show Int32.ofNat 7 = 7 from rfl] at h9
      refine ⟨?_, rfl, rfl⟩
      first
        | (exact (bI_t (by simp only [Int32.le_iff_toInt_le, Int32.lt_iff_toInt_lt] at *; omega)).symm)
        | (simp_all [bI]; done)

set_option maxRecDepth 100000 in
theorem c10_numberAt {σ : ex_S} {μ : ex_L} (x p : Int32) : Ci 2 yX10_numberAt cX10_numberAt 2 (some .int) [.int x, .int p] TT σ μ (fun z' σ' μ' => z' = ((x.toUInt32 >>> ((4 * p).toUInt32 &&& Int32.toUInt32 31)).toInt32 &&& 15) ∧ σ' = σ ∧ μ' = μ) := by
  refine Cl_of (by decide +kernel) (Nat.le_of_ble_eq_true rfl) ?_
  show Ev RX10 cX10_numberAt 2 2 0 0 "numberAt" (some .int) ev_ext _ _ 0 0 0 [(0, .int x), (1, .int p)] [] TT σ μ
  refine e_iload_n dX10_numberAt_0 rfl 0 rfl ?_
  refine e_iconst (v := 4) dX10_numberAt_1 rfl ?_
  refine e_iload_n dX10_numberAt_2 rfl 1 rfl ?_
  refine e_imul dX10_numberAt_3 ?_
  refine e_iushr dX10_numberAt_4 ?_
  refine e_bipush (v := 15) dX10_numberAt_5 rfl ?_
  refine e_iand dX10_numberAt_7 ?_
  refine e_reti dX10_numberAt_8 ev_nwi (Nat.le_refl _) (Nat.le_refl _) ?_
  exact ⟨rfl, rfl, rfl⟩

set_option maxRecDepth 100000 in
theorem c11_within {σ : ex_S} {μ : ex_L} (v lo hi : Int32) : Ci 2 yX11_within cX11_within 3 (some .boolean) [.int v, .int lo, .int hi] TT σ μ (fun z' σ' μ' => z' = bI (lo ≤ v ∧ v ≤ hi) ∧ σ' = σ ∧ μ' = μ) := by
  refine Cl_of (by decide +kernel) (Nat.le_of_ble_eq_true rfl) ?_
  show Ev RX11 cX11_within 3 2 0 0 "within" (some .boolean) ev_ext _ _ 0 0 0 [(0, .int v), (1, .int lo), (2, .int hi)] [] TT σ μ
  refine e_iload_n dX11_within_0 rfl 0 rfl ?_
  refine e_iload_n dX11_within_1 rfl 1 rfl ?_
  refine e_icmp_lt (t := 14) dX11_within_2 (by decide) (fun h2 => ?_) (fun h2 => ?_)
  · skip
    refine e_iconst (v := 0) dX11_within_14 rfl ?_
    refine e_reti dX11_within_15 ev_nw0 (Nat.le_refl _) (Nat.le_refl _) ?_
    refine ⟨?_, rfl, rfl⟩
    first
      | (exact (bI_f (by simp only [Int32.le_iff_toInt_le, Int32.lt_iff_toInt_lt] at *; omega)).symm)
      | (simp_all [bI]; done)
  · skip
    refine e_iload_n dX11_within_5 rfl 0 rfl ?_
    refine e_iload_n dX11_within_6 rfl 2 rfl ?_
    refine e_icmp_gt (t := 14) dX11_within_7 (by decide) (fun h7 => ?_) (fun h7 => ?_)
    · skip
      refine e_iconst (v := 0) dX11_within_14 rfl ?_
      refine e_reti dX11_within_15 ev_nw0 (Nat.le_refl _) (Nat.le_refl _) ?_
      refine ⟨?_, rfl, rfl⟩
      first
        | (exact (bI_f (by simp only [Int32.le_iff_toInt_le, Int32.lt_iff_toInt_lt] at *; omega)).symm)
        | (simp_all [bI]; done)
    · skip
      refine e_iconst (v := 1) dX11_within_10 rfl ?_
      refine e_goto (t := 15) dX11_within_11 (by decide) ?_
      refine e_reti dX11_within_15 ev_nw1 (Nat.le_refl _) (Nat.le_refl _) ?_
      refine ⟨?_, rfl, rfl⟩
      first
        | (exact (bI_t (by simp only [Int32.le_iff_toInt_le, Int32.lt_iff_toInt_lt] at *; omega)).symm)
        | (simp_all [bI]; done)

set_option maxRecDepth 100000 in
theorem c11_isNumber {σ : ex_S} {μ : ex_L} (x : Int32) : Ci 3 yX11_isNumber cX11_isNumber 1 (some .boolean) [.int x] TT σ μ (fun z' σ' μ' => z' = bI (0 ≤ x ∧ x ≤ 15) ∧ σ' = σ ∧ μ' = μ) := by
  refine Cl_of (by decide +kernel) (Nat.le_of_ble_eq_true rfl) ?_
  show Ev RX11 cX11_isNumber 1 3 0 0 "isNumber" (some .boolean) ev_ext _ _ 0 0 0 [(0, .int x)] [] TT σ μ
  refine e_iload_n dX11_isNumber_0 rfl 0 rfl ?_
  refine e_iconst (v := 0) dX11_isNumber_1 rfl ?_
  refine e_bipush (v := 15) dX11_isNumber_2 rfl ?_
  refine e_callSi dX11_isNumber_4 cvX11_99 rfl (c11_within x 0 15) (Nat.le_of_ble_eq_true rfl) (Nat.le_refl _) (Nat.le_refl _) rfl (Nat.le_of_ble_eq_true rfl) (fun r4 s4 m4 q4 => ?_)
  obtain ⟨q4, e4, g4⟩ := q4
  rw [e4, g4]
  clear e4 g4 s4 m4
  refine e_reti dX11_isNumber_7 (ev_nwb (by rw [q4]; exact bI_01 _)) (Nat.le_refl _) (Nat.le_refl _) ?_
  exact ⟨q4, rfl, rfl⟩

set_option maxRecDepth 100000 in
theorem c11_isIn {σ : ex_S} {μ : ex_L} (x p : Int32) : Ci 2 yX11_isIn cX11_isIn 2 (some .boolean) [.int x, .int p] TT σ μ (fun z' σ' μ' => z' = bI ((x >>> (p &&& 31)) &&& 1 = 1) ∧ σ' = σ ∧ μ' = μ) := by
  refine Cl_of (by decide +kernel) (Nat.le_of_ble_eq_true rfl) ?_
  show Ev RX11 cX11_isIn 2 2 0 0 "isIn" (some .boolean) ev_ext _ _ 0 0 0 [(0, .int x), (1, .int p)] [] TT σ μ
  refine e_iload_n dX11_isIn_0 rfl 0 rfl ?_
  refine e_iload_n dX11_isIn_1 rfl 1 rfl ?_
  refine e_ishr dX11_isIn_2 ?_
  refine e_iconst (v := 1) dX11_isIn_3 rfl ?_
  refine e_iand dX11_isIn_4 ?_
  refine e_iconst (v := 1) dX11_isIn_5 rfl ?_
  refine e_icmp_ne (t := 13) dX11_isIn_6 (by decide) (fun h6 => ?_) (fun h6 => ?_)
  · skip
    refine e_iconst (v := 0) dX11_isIn_13 rfl ?_
    refine e_reti dX11_isIn_14 ev_nw0 (Nat.le_refl _) (Nat.le_refl _) ?_
    refine ⟨?_, rfl, rfl⟩
    first
      | (exact (bI_f (by simp only [Int32.le_iff_toInt_le, Int32.lt_iff_toInt_lt] at *; omega)).symm)
      | (simp_all [bI]; done)
  · skip
    refine e_iconst (v := 1) dX11_isIn_9 rfl ?_
    refine e_goto (t := 14) dX11_isIn_10 (by decide) ?_
    refine e_reti dX11_isIn_14 ev_nw1 (Nat.le_refl _) (Nat.le_refl _) ?_
    refine ⟨?_, rfl, rfl⟩
    first
      | (exact (bI_t (by simp only [Int32.le_iff_toInt_le, Int32.lt_iff_toInt_lt] at *; omega)).symm)
      | (simp_all [bI]; done)

set_option maxRecDepth 100000 in
theorem c11_isTape {σ : ex_S} {μ : ex_L} (x : Int32) : Ci 3 yX11_isTape cX11_isTape 1 (some .boolean) [.int x] TT σ μ (fun z' σ' μ' => z' = bI (0 ≤ x ∧ x ≤ 5) ∧ σ' = σ ∧ μ' = μ) := by
  refine Cl_of (by decide +kernel) (Nat.le_of_ble_eq_true rfl) ?_
  show Ev RX11 cX11_isTape 1 3 0 0 "isTape" (some .boolean) ev_ext _ _ 0 0 0 [(0, .int x)] [] TT σ μ
  refine e_iload_n dX11_isTape_0 rfl 0 rfl ?_
  refine e_iconst (v := 0) dX11_isTape_1 rfl ?_
  refine e_iconst (v := 5) dX11_isTape_2 rfl ?_
  refine e_callSi dX11_isTape_3 cvX11_99 rfl (c11_within x 0 5) (Nat.le_of_ble_eq_true rfl) (Nat.le_refl _) (Nat.le_refl _) rfl (Nat.le_of_ble_eq_true rfl) (fun r3 s3 m3 q3 => ?_)
  obtain ⟨q3, e3, g3⟩ := q3
  rw [e3, g3]
  clear e3 g3 s3 m3
  refine e_reti dX11_isTape_6 (ev_nwb (by rw [q3]; exact bI_01 _)) (Nat.le_refl _) (Nat.le_refl _) ?_
  exact ⟨q3, rfl, rfl⟩

set_option maxRecDepth 100000 in
theorem c11_above {σ : ex_S} {μ : ex_L} (x : Int32) : Ci 2 yX11_above cX11_above 1 (some .int) [.int x] TT σ μ (fun z' σ' μ' => z' = (if 3 < x then x - 3 else 0) ∧ σ' = σ ∧ μ' = μ) := by
  refine Cl_of (by decide +kernel) (Nat.le_of_ble_eq_true rfl) ?_
  show Ev RX11 cX11_above 1 2 0 0 "above" (some .int) ev_ext _ _ 0 0 0 [(0, .int x)] [] TT σ μ
  refine e_iload_n dX11_above_0 rfl 0 rfl ?_
  refine e_iconst (v := 3) dX11_above_1 rfl ?_
  refine e_icmp_le (t := 11) dX11_above_2 (by decide) (fun h2 => ?_) (fun h2 => ?_)
  · skip
    refine e_iconst (v := 0) dX11_above_11 rfl ?_
    refine e_reti dX11_above_12 ev_nwi (Nat.le_refl _) (Nat.le_refl _) ?_
    refine ⟨?_, rfl, rfl⟩
    first
      | exact (if_pos (by simp only [Int32.le_iff_toInt_le, Int32.lt_iff_toInt_lt] at *; omega)).symm
      | exact (if_neg (by simp only [Int32.le_iff_toInt_le, Int32.lt_iff_toInt_lt] at *; omega)).symm
  · skip
    refine e_iload_n dX11_above_5 rfl 0 rfl ?_
    refine e_iconst (v := 3) dX11_above_6 rfl ?_
    refine e_isub dX11_above_7 ?_
    refine e_goto (t := 12) dX11_above_8 (by decide) ?_
    refine e_reti dX11_above_12 ev_nwi (Nat.le_refl _) (Nat.le_refl _) ?_
    refine ⟨?_, rfl, rfl⟩
    first
      | exact (if_pos (by simp only [Int32.le_iff_toInt_le, Int32.lt_iff_toInt_lt] at *; omega)).symm
      | exact (if_neg (by simp only [Int32.le_iff_toInt_le, Int32.lt_iff_toInt_lt] at *; omega)).symm

set_option maxRecDepth 100000 in
theorem c11_isOne {σ : ex_S} {μ : ex_L} (x : Int32) : Ci 3 yX11_isOne cX11_isOne 2 (some .boolean) [.ref 127, .int x] TT σ μ (fun z' σ' μ' => z' = bI (0 ≤ x ∧ x ≤ σ 127 5 - 1) ∧ σ' = σ ∧ μ' = μ) := by
  refine Cl_of (by decide +kernel) (Nat.le_of_ble_eq_true rfl) ?_
  show Ev RX11 cX11_isOne 2 3 0 0 "isOne" (some .boolean) ev_ext _ _ 0 0 0 [(0, .ref 127), (1, .int x)] [] TT σ μ
  refine e_iload_n dX11_isOne_0 rfl 1 rfl ?_
  refine e_iconst (v := 0) dX11_isOne_1 rfl ?_
  refine e_aload_n dX11_isOne_2 rfl 0 rfl ?_
  refine e_getI dX11_isOne_3 lkX11_95 tt_127 rfl ?_
  refine e_iconst (v := 1) dX11_isOne_6 rfl ?_
  refine e_isub dX11_isOne_7 ?_
  refine e_callSi dX11_isOne_8 cvX11_99 rfl (c11_within x 0 (σ 127 5 - 1)) (Nat.le_of_ble_eq_true rfl) (Nat.le_refl _) (Nat.le_refl _) rfl (Nat.le_of_ble_eq_true rfl) (fun r8 s8 m8 q8 => ?_)
  obtain ⟨q8, e8, g8⟩ := q8
  rw [e8, g8]
  clear e8 g8 s8 m8
  refine e_reti dX11_isOne_11 (ev_nwb (by rw [q8]; exact bI_01 _)) (Nat.le_refl _) (Nat.le_refl _) ?_
  exact ⟨q8, rfl, rfl⟩

set_option maxRecDepth 100000 in
theorem c11_all {σ : ex_S} {μ : ex_L} : Ci 2 yX11_all cX11_all 1 (some .int) [.ref 127] TT σ μ (fun z' σ' μ' => z' = ((1 <<< (σ 127 5 &&& 31)) - 1) ∧ σ' = σ ∧ μ' = μ) := by
  refine Cl_of (by decide +kernel) (Nat.le_of_ble_eq_true rfl) ?_
  show Ev RX11 cX11_all 1 2 0 0 "all" (some .int) ev_ext _ _ 0 0 0 [(0, .ref 127)] [] TT σ μ
  refine e_iconst (v := 1) dX11_all_0 rfl ?_
  refine e_aload_n dX11_all_1 rfl 0 rfl ?_
  refine e_getI dX11_all_2 lkX11_95 tt_127 rfl ?_
  refine e_ishl dX11_all_5 ?_
  refine e_iconst (v := 1) dX11_all_6 rfl ?_
  refine e_isub dX11_all_7 ?_
  refine e_reti dX11_all_8 ev_nwi (Nat.le_refl _) (Nat.le_refl _) ?_
  exact ⟨rfl, rfl, rfl⟩

set_option maxRecDepth 100000 in
theorem c4_inverse {σ : ex_S} {μ : ex_L} (x : Int32) : Ci 3 yX4_inverse cX4_inverse 2 (some .int) [.ref 1, .int x] TT σ μ (fun z' σ' μ' => z' = (if 0 ≤ x ∧ x ≤ 15 then σ 2 x.toNatClampNeg else 0) ∧ σ' = σ ∧ μ' = μ) := by
  refine Cl_of (by decide +kernel) (Nat.le_of_ble_eq_true rfl) ?_
  show Ev RX4 cX4_inverse 2 3 0 0 "inverse" (some .int) ev_ext _ _ 0 0 0 [(0, .ref 1), (1, .int x)] [] TT σ μ
  refine e_iload_n dX4_inverse_0 rfl 1 rfl ?_
  refine e_callNi dX4_inverse_1 cnX4_41 nlX4_41 rfl (c10_isNumber x) (Nat.le_of_ble_eq_true rfl) (Nat.le_refl _) (Nat.le_refl _) rfl (Nat.le_of_ble_eq_true rfl) (fun r1 s1 m1 q1 => ?_)
  obtain ⟨q1, e1, g1⟩ := q1
  rw [e1, g1]
  clear e1 g1 s1 m1
  refine e_if_eq (t := 16) dX4_inverse_4 (by decide) (fun h4 => ?_) (fun h4 => ?_)
  · skip
    rw [q1] at h4
    have h9 : ¬ (0 ≤ x ∧ x ≤ 15) := by simpa [bI] using h4
    refine e_iconst (v := 0) dX4_inverse_16 rfl ?_
    refine e_reti dX4_inverse_17 ev_nwi (Nat.le_refl _) (Nat.le_refl _) ?_
    refine ⟨?_, rfl, rfl⟩
    first
      | exact (if_pos h9).symm
      | exact (if_neg h9).symm
  · skip
    rw [q1] at h4
    have h9 : 0 ≤ x ∧ x ≤ 15 := by simpa [bI] using h4
    refine e_aload_n dX4_inverse_7 rfl 0 rfl ?_
    refine e_getR dX4_inverse_8 lkX4_7 tt_1 rfl ?_
    refine e_iload_n dX4_inverse_11 rfl 1 rfl ?_
    refine e_iald dX4_inverse_12 tt_2 (vp_le h9.1 h9.2 (by decide)) ?_
    refine e_goto (t := 17) dX4_inverse_13 (by decide) ?_
    refine e_reti dX4_inverse_17 ev_nwi (Nat.le_refl _) (Nat.le_refl _) ?_
    refine ⟨?_, rfl, rfl⟩
    first
      | exact (if_pos h9).symm
      | exact (if_neg h9).symm

set_option maxRecDepth 100000 in
theorem c3_has {b : Nat} (hN : NodesAt b) {σ : ex_S} {μ : ex_L} (node : Int32) : Ci 2 yX3_has cX3_has 2 (some .boolean) [.ref b, .int node] TT σ μ (fun z' σ' μ' => z' = bI (0 ≤ node ∧ node < σ b 0) ∧ σ' = σ ∧ μ' = μ) := by
  refine Cl_of (by decide +kernel) (Nat.le_of_ble_eq_true rfl) ?_
  show Ev RX3 cX3_has 2 2 0 0 "has" (some .boolean) ev_ext _ _ 0 0 0 [(0, .ref b), (1, .int node)] [] TT σ μ
  refine e_iload_n dX3_has_0 rfl 1 rfl ?_
  refine e_if_lt (t := 16) dX3_has_1 (by decide) (fun h1 => ?_) (fun h1 => ?_)
  · skip
    refine e_iconst (v := 0) dX3_has_16 rfl ?_
    refine e_reti dX3_has_17 ev_nw0 (Nat.le_refl _) (Nat.le_refl _) ?_
    refine ⟨?_, rfl, rfl⟩
    first
      | (exact (bI_f (by simp only [Int32.le_iff_toInt_le, Int32.lt_iff_toInt_lt] at *; omega)).symm)
      | (simp_all [bI]; done)
  · skip
    refine e_iload_n dX3_has_4 rfl 1 rfl ?_
    refine e_aload_n dX3_has_5 rfl 0 rfl ?_
    refine e_getI dX3_has_6 lkX3_9 (nodes_0 hN) rfl ?_
    refine e_icmp_ge (t := 16) dX3_has_9 (by decide) (fun h9 => ?_) (fun h9 => ?_)
    · skip
      refine e_iconst (v := 0) dX3_has_16 rfl ?_
      refine e_reti dX3_has_17 ev_nw0 (Nat.le_refl _) (Nat.le_refl _) ?_
      refine ⟨?_, rfl, rfl⟩
      first
        | (exact (bI_f (by simp only [Int32.le_iff_toInt_le, Int32.lt_iff_toInt_lt] at *; omega)).symm)
        | (simp_all [bI]; done)
    · skip
      refine e_iconst (v := 1) dX3_has_12 rfl ?_
      refine e_goto (t := 17) dX3_has_13 (by decide) ?_
      refine e_reti dX3_has_17 ev_nw1 (Nat.le_refl _) (Nat.le_refl _) ?_
      refine ⟨?_, rfl, rfl⟩
      first
        | (exact (bI_t (by simp only [Int32.le_iff_toInt_le, Int32.lt_iff_toInt_lt] at *; omega)).symm)
        | (simp_all [bI]; done)

set_option maxRecDepth 100000 in
theorem c3_everyone {b : Nat} (hN : NodesAt b) {σ : ex_S} {μ : ex_L} : Ci 2 yX3_everyone cX3_everyone 1 (some .int) [.ref b] TT σ μ (fun z' σ' μ' => z' = ((1 <<< (σ b 0 &&& 31)) - 1) ∧ σ' = σ ∧ μ' = μ) := by
  refine Cl_of (by decide +kernel) (Nat.le_of_ble_eq_true rfl) ?_
  show Ev RX3 cX3_everyone 1 2 0 0 "everyone" (some .int) ev_ext _ _ 0 0 0 [(0, .ref b)] [] TT σ μ
  refine e_iconst (v := 1) dX3_everyone_0 rfl ?_
  refine e_aload_n dX3_everyone_1 rfl 0 rfl ?_
  refine e_getI dX3_everyone_2 lkX3_9 (nodes_0 hN) rfl ?_
  refine e_ishl dX3_everyone_5 ?_
  refine e_iconst (v := 1) dX3_everyone_6 rfl ?_
  refine e_isub dX3_everyone_7 ?_
  refine e_reti dX3_everyone_8 ev_nwi (Nat.le_refl _) (Nat.le_refl _) ?_
  exact ⟨rfl, rfl, rfl⟩

set_option maxRecDepth 100000 in
theorem c3_there {b : Nat} (hN : NodesAt b) {σ : ex_S} {μ : ex_L} : Ci 3 yX3_there cX3_there 1 (some .int) [.ref b] TT σ μ (fun z' σ' μ' => z' = (((1 <<< (σ b 0 &&& 31)) - 1) &&& (σ b 3 ^^^ (-1))) ∧ σ' = σ ∧ μ' = μ) := by
  refine Cl_of (by decide +kernel) (Nat.le_of_ble_eq_true rfl) ?_
  show Ev RX3 cX3_there 1 3 0 0 "there" (some .int) ev_ext _ _ 0 0 0 [(0, .ref b)] [] TT σ μ
  refine e_aload_n dX3_there_0 rfl 0 rfl ?_
  refine e_callVi dX3_there_1 cvX3_61 rfl (nodes_0 hN) rfl (c3_everyone hN) (Nat.le_of_ble_eq_true rfl) (Nat.le_refl _) (Nat.le_refl _) rfl (Nat.le_of_ble_eq_true rfl) (fun r1 s1 m1 q1 => ?_)
  obtain ⟨q1, e1, g1⟩ := q1
  rw [e1, g1]
  clear e1 g1 s1 m1
  refine e_aload_n dX3_there_4 rfl 0 rfl ?_
  refine e_getI dX3_there_5 lkX3_21 (nodes_0 hN) rfl ?_
  refine e_iconst (v := (-1)) dX3_there_8 rfl ?_
  refine e_ixor dX3_there_9 ?_
  refine e_iand dX3_there_10 ?_
  refine e_reti dX3_there_11 ev_nwi (Nat.le_refl _) (Nat.le_refl _) ?_
  exact ⟨by rw [q1], rfl, rfl⟩

set_option maxRecDepth 100000 in
theorem c3_isMissing {b : Nat} (hN : NodesAt b) {σ : ex_S} {μ : ex_L} (node : Int32) : Ci 2 yX3_isMissing cX3_isMissing 2 (some .boolean) [.ref b, .int node] TT σ μ (fun z' σ' μ' => z' = bI (¬ (σ b 3 >>> (node &&& 31)) &&& 1 = 0) ∧ σ' = σ ∧ μ' = μ) := by
  refine Cl_of (by decide +kernel) (Nat.le_of_ble_eq_true rfl) ?_
  show Ev RX3 cX3_isMissing 2 2 0 0 "isMissing" (some .boolean) ev_ext _ _ 0 0 0 [(0, .ref b), (1, .int node)] [] TT σ μ
  refine e_aload_n dX3_isMissing_0 rfl 0 rfl ?_
  refine e_getI dX3_isMissing_1 lkX3_21 (nodes_0 hN) rfl ?_
  refine e_iload_n dX3_isMissing_4 rfl 1 rfl ?_
  refine e_ishr dX3_isMissing_5 ?_
  refine e_iconst (v := 1) dX3_isMissing_6 rfl ?_
  refine e_iand dX3_isMissing_7 ?_
  refine e_if_eq (t := 15) dX3_isMissing_8 (by decide) (fun h8 => ?_) (fun h8 => ?_)
  · skip
    refine e_iconst (v := 0) dX3_isMissing_15 rfl ?_
    refine e_reti dX3_isMissing_16 ev_nw0 (Nat.le_refl _) (Nat.le_refl _) ?_
    refine ⟨?_, rfl, rfl⟩
    first
      | (exact (bI_f (by simp only [Int32.le_iff_toInt_le, Int32.lt_iff_toInt_lt] at *; omega)).symm)
      | (simp_all [bI]; done)
  · skip
    refine e_iconst (v := 1) dX3_isMissing_11 rfl ?_
    refine e_goto (t := 16) dX3_isMissing_12 (by decide) ?_
    refine e_reti dX3_isMissing_16 ev_nw1 (Nat.le_refl _) (Nat.le_refl _) ?_
    refine ⟨?_, rfl, rfl⟩
    first
      | (exact (bI_t (by simp only [Int32.le_iff_toInt_le, Int32.lt_iff_toInt_lt] at *; omega)).symm)
      | (simp_all [bI]; done)

def rk (σ : ex_S) (s : Int32) : Int32 := if 0 ≤ s ∧ s < 1024 then σ 6 s.toNatClampNeg else 0

set_option maxRecDepth 100000 in
theorem c6_rankOf {σ : ex_S} {μ : ex_L} (x : Int32) : Ci 2 yX6_rankOf cX6_rankOf 2 (some .int) [.ref 5, .int x] TT σ μ (fun z' σ' μ' => z' = rk σ x ∧ σ' = σ ∧ μ' = μ) := by
  refine Cl_of (by decide +kernel) (Nat.le_of_ble_eq_true rfl) ?_
  show Ev RX6 cX6_rankOf 2 2 0 0 "rankOf" (some .int) ev_ext _ _ 0 0 0 [(0, .ref 5), (1, .int x)] [] TT σ μ
  refine e_iload_n dX6_rankOf_0 rfl 1 rfl ?_
  refine e_if_lt (t := 22) dX6_rankOf_1 (by decide) (fun h1 => ?_) (fun h1 => ?_)
  · skip
    refine e_iconst (v := 0) dX6_rankOf_22 rfl ?_
    refine e_reti dX6_rankOf_23 ev_nwi (Nat.le_refl _) (Nat.le_refl _) ?_
    refine ⟨?_, rfl, rfl⟩
    try simp only [show Int32.ofNat 1024 = 1024 from rfl] at h10
    unfold rk
    first
      | exact (if_pos (by simp only [Int32.le_iff_toInt_le, Int32.lt_iff_toInt_lt] at *; omega)).symm
      | exact (if_neg (by simp only [Int32.le_iff_toInt_le, Int32.lt_iff_toInt_lt] at *; omega)).symm
  · skip
    refine e_iload_n dX6_rankOf_4 rfl 1 rfl ?_
    refine e_aload_n dX6_rankOf_5 rfl 0 rfl ?_
    refine e_getR dX6_rankOf_6 lkX6_9 tt_5 rfl ?_
    refine e_alen dX6_rankOf_9 tt_6 (Nat.le_of_ble_eq_true rfl) ?_
    refine e_icmp_ge (t := 22) dX6_rankOf_10 (by decide) (fun h10 => ?_) (fun h10 => ?_)
    · skip
      refine e_iconst (v := 0) dX6_rankOf_22 rfl ?_
      refine e_reti dX6_rankOf_23 ev_nwi (Nat.le_refl _) (Nat.le_refl _) ?_
      refine ⟨?_, rfl, rfl⟩
      try simp only [show Int32.ofNat 1024 = 1024 from rfl] at h10
      unfold rk
      first
        | exact (if_pos (by simp only [Int32.le_iff_toInt_le, Int32.lt_iff_toInt_lt] at *; omega)).symm
        | exact (if_neg (by simp only [Int32.le_iff_toInt_le, Int32.lt_iff_toInt_lt] at *; omega)).symm
    · skip
      refine e_aload_n dX6_rankOf_13 rfl 0 rfl ?_
      refine e_getR dX6_rankOf_14 lkX6_9 tt_5 rfl ?_
      refine e_iload_n dX6_rankOf_17 rfl 1 rfl ?_
      refine e_iald dX6_rankOf_18 tt_6 (vp_lt (i32_nlt h1) (i32_nle h10) (by decide)) ?_
      refine e_goto (t := 23) dX6_rankOf_19 (by decide) ?_
      refine e_reti dX6_rankOf_23 ev_nwi (Nat.le_refl _) (Nat.le_refl _) ?_
      refine ⟨?_, rfl, rfl⟩
      try simp only [show Int32.ofNat 1024 = 1024 from rfl] at h10
      unfold rk
      first
        | exact (if_pos (by simp only [Int32.le_iff_toInt_le, Int32.lt_iff_toInt_lt] at *; omega)).symm
        | exact (if_neg (by simp only [Int32.le_iff_toInt_le, Int32.lt_iff_toInt_lt] at *; omega)).symm

set_option maxRecDepth 100000 in
theorem c6_tells {σ : ex_S} {μ : ex_L} (x n : Int32) : Ci 3 yX6_tells cX6_tells 3 (some .boolean) [.ref 5, .int x, .int n] TT σ μ (fun z' σ' μ' => z' = bI (rk σ (x ||| (1 <<< (n &&& 31))) = rk σ x) ∧ σ' = σ ∧ μ' = μ) := by
  refine Cl_of (by decide +kernel) (Nat.le_of_ble_eq_true rfl) ?_
  show Ev RX6 cX6_tells 3 3 0 0 "tells" (some .boolean) ev_ext _ _ 0 0 0 [(0, .ref 5), (1, .int x), (2, .int n)] [] TT σ μ
  refine e_aload_n dX6_tells_0 rfl 0 rfl ?_
  refine e_iload_n dX6_tells_1 rfl 1 rfl ?_
  refine e_iconst (v := 1) dX6_tells_2 rfl ?_
  refine e_iload_n dX6_tells_3 rfl 2 rfl ?_
  refine e_ishl dX6_tells_4 ?_
  refine e_ior dX6_tells_5 ?_
  refine e_callVi dX6_tells_6 cvX6_24 rfl tt_5 rfl (c6_rankOf _) (Nat.le_of_ble_eq_true rfl) (Nat.le_refl _) (Nat.le_refl _) rfl (Nat.le_of_ble_eq_true rfl) (fun r6 s6 m6 q6 => ?_)
  obtain ⟨q6, e6, g6⟩ := q6
  rw [e6, g6]
  clear e6 g6 s6 m6
  refine e_aload_n dX6_tells_9 rfl 0 rfl ?_
  refine e_iload_n dX6_tells_10 rfl 1 rfl ?_
  refine e_callVi dX6_tells_11 cvX6_24 rfl tt_5 rfl (c6_rankOf x) (Nat.le_of_ble_eq_true rfl) (Nat.le_refl _) (Nat.le_refl _) rfl (Nat.le_of_ble_eq_true rfl) (fun r11 s11 m11 q11 => ?_)
  obtain ⟨q11, e11, g11⟩ := q11
  rw [e11, g11]
  clear e11 g11 s11 m11
  refine e_icmp_ne (t := 21) dX6_tells_14 (by decide) (fun h14 => ?_) (fun h14 => ?_)
  · skip
    refine e_iconst (v := 0) dX6_tells_21 rfl ?_
    refine e_reti dX6_tells_22 ev_nw0 (Nat.le_refl _) (Nat.le_refl _) ?_
    refine ⟨?_, rfl, rfl⟩
    first
      | (exact (bI_f (by simp only [Int32.le_iff_toInt_le, Int32.lt_iff_toInt_lt] at *; omega)).symm)
      | (simp_all [bI]; done)
  · skip
    refine e_iconst (v := 1) dX6_tells_17 rfl ?_
    refine e_goto (t := 22) dX6_tells_18 (by decide) ?_
    refine e_reti dX6_tells_22 ev_nw1 (Nat.le_refl _) (Nat.le_refl _) ?_
    refine ⟨?_, rfl, rfl⟩
    first
      | (exact (bI_t (by simp only [Int32.le_iff_toInt_le, Int32.lt_iff_toInt_lt] at *; omega)).symm)
      | (simp_all [bI]; done)
