def FrT (σ σ' : ex_S) : Prop := (∀ i, i ≠ 127 → i ≠ 141 → σ' i = σ i) ∧ ∀ k, k ≠ 19 → k ≠ 20 → σ' 127 k = σ 127 k
def RV (σ : ex_S) (k : Nat) (r : ps_T) : Prop := σ 127 19 = nI r.2.1 ∧ σ 127 20 = nI (4 - k) ∧ ∀ c, c < 5 → σ 141 c = nI (nib r.2.2 c)
theorem FrT.rf {σ : ex_S} : FrT σ σ := ⟨fun _ _ _ => rfl, fun _ _ _ => rfl⟩
theorem FrT.tr {σ σ' σ2 : ex_S} (h : FrT σ σ') (h2 : FrT σ' σ2) : FrT σ σ2 := ⟨fun i a b => (h2.1 i a b).trans (h.1 i a b), fun k a b => (h2.2 k a b).trans (h.2 k a b)⟩
theorem FrT.s {σ σ' : ex_S} (h : FrT σ σ') {k : Nat} {v : Int32} (hk : k = 19 ∨ k = 20) : FrT σ (sup σ' 127 k v) := ⟨fun i a b => by rw [sup_obj a]; exact h.1 i a b, fun j a b => by rw [sup_idx (by omega)]; exact h.2 j a b⟩
theorem FrT.a {σ σ' : ex_S} (h : FrT σ σ') {k : Nat} {v : Int32} : FrT σ (sup σ' 141 k v) := ⟨fun i a b => by rw [sup_obj b]; exact h.1 i a b, fun j a b => by rw [sup_obj (by decide)]; exact h.2 j a b⟩
theorem TXR.fT {σ σ' : ex_S} {z : Nat} {X : Nat → Nat} (h : TXR σ z X) (f : FrT σ σ') : TXR σ' z X := ⟨by rw [f.2 17 (by decide) (by decide)]; exact h.1, fun i hi => by rw [f.1 140 (by decide) (by decide)]; exact h.2 i hi⟩
theorem FR.fT {σ σ' : ex_S} {p : Nat} (h : FR σ p) (f : FrT σ σ') : FR σ' p := h.to2 (fun i a b => f.1 i (by omega) (by omega)) (fun k a => f.2 k (by omega) (by omega))
theorem nib_sh {t d : Nat} (ht : t < 16) : ∀ c, c < 5 → d < 5 → nib (t * 2 ^ (4 * d)) c = if c = d then t else 0 := by
  have h : ∀ t, t < 16 → ∀ d, d < 5 → ∀ c, c < 5 → nib (t * 2 ^ (4 * d)) c = if c = d then t else 0 := by decide +kernel
  intro c hc hd
  exact h t ht d hd c hc

set_option maxRecDepth 100000 in
theorem c11_sign {z a : Nat} {X : Nat → Nat} (hX : ∀ i, i < z → X i < 128) (hz : z ≤ 100) (ha : a ≤ z) {σ : ex_S} {μ : ex_L}(hT : TXR σ z X) (h3 : σ 127 19 = nI a) : Ci 1 yX11_sign cX11_sign 1 (some .int) [.ref 127] TT σ μ (fun z' σ' μ' => z' = sI (sgn X z a) ∧ σ' = σ ∧ μ' = μ) := by
  refine Cl_of (by decide +kernel) (Nat.le_of_ble_eq_true rfl) ?_
  show Ev RX11 cX11_sign 1 1 0 0 "sign" (some .int) ev_ext _ _ 0 0 0 [(0, .ref 127)] [] TT σ μ
  refine e_aload_n dX11_sign_0 rfl 0 rfl ?_
  refine e_getI dX11_sign_1 lkX11_143 tt_127 rfl ?_
  refine e_aload_n dX11_sign_4 rfl 0 rfl ?_
  refine e_getI dX11_sign_5 lkX11_140 tt_127 rfl ?_
  rw [h3, hT.1]
  refine e_icmp_ge (t := 23) dX11_sign_8 (by decide) (fun h8 => ?_) (fun h8 => ?_)
  · skip
    skip
    refine e_iconst (v := (-1)) dX11_sign_23 rfl ?_
    refine e_reti dX11_sign_24 ev_nwi (Nat.le_refl _) (Nat.le_refl _) ?_
    rw [sgn_out ((i_le (by omega) (by omega)).mp h8)]
    exact ⟨rfl, rfl, rfl⟩
  · skip
    have haz : a < z := by
      have : ¬ z ≤ a := fun q => h8 ((i_le (by omega) (by omega)).mpr q)
      omega
    refine e_aload_n dX11_sign_11 rfl 0 rfl ?_
    refine e_getR dX11_sign_12 lkX11_48 tt_127 rfl ?_
    refine e_aload_n dX11_sign_15 rfl 0 rfl ?_
    refine e_getI dX11_sign_16 lkX11_143 tt_127 rfl ?_
    rw [h3]
    refine e_iald dX11_sign_19 tt_140 (vp_in_nI (by omega) (by decide)) ?_
    rw [i_cl (by omega), hT.2 a haz]
    refine e_goto (t := 24) dX11_sign_20 (by decide) ?_
    refine e_reti dX11_sign_24 ev_nwi (Nat.le_refl _) (Nat.le_refl _) ?_
    unfold sgn
    rw [if_pos haz]
    exact ⟨(if_neg (show ¬ X a = 200 from fun q => by have := hX a haz; omega)).symm, rfl, rfl⟩

set_option maxRecDepth 100000 in
theorem c11_is {z a : Nat} {X : Nat → Nat} (hX : ∀ i, i < z → X i < 128) (hz : z ≤ 100) (ha : a ≤ z) {c : Nat} (hc : c < 128) {σ : ex_S} {μ : ex_L}(hT : TXR σ z X) (h3 : σ 127 19 = nI a) : Ci 2 yX11_is cX11_is 2 (some .boolean) [.ref 127, .int (nI c)] TT σ μ (fun z' σ' μ' => ((z' = 1 ∧ sgn X z a = c ∧ σ' = sup σ 127 19 (nI (a + 1))) ∨ (z' = 0 ∧ ¬ sgn X z a = c ∧ σ' = σ)) ∧ μ' = μ) := by
  refine Cl_of (by decide +kernel) (Nat.le_of_ble_eq_true rfl) ?_
  show Ev RX11 cX11_is 2 2 0 0 "is" (some .boolean) ev_ext _ _ 0 0 0 [(0, .ref 127), (1, .int (nI c))] [] TT σ μ
  refine e_aload_n dX11_is_0 rfl 0 rfl ?_
  refine e_callVi dX11_is_1 cvX11_146 rfl tt_127 rfl (c11_sign hX hz ha hT h3) (Nat.le_of_ble_eq_true rfl) (Nat.le_refl _) (Nat.le_refl _) rfl (Nat.le_of_ble_eq_true rfl) (fun r1 s1 m1 q1 => ?_)
  obtain ⟨q1, e1, g1⟩ := q1
  rw [e1, g1]
  clear e1 g1 s1 m1
  refine e_iload_n dX11_is_4 rfl 1 rfl ?_
  rw [q1]
  refine e_icmp_eq (t := 10) dX11_is_5 (by decide) (fun h5 => ?_) (fun h5 => ?_)
  · skip
    refine e_aload_n dX11_is_10 rfl 0 rfl ?_
    refine e_dup dX11_is_11 rfl ?_
    refine e_getI dX11_is_12 lkX11_143 tt_127 rfl ?_
    rw [h3]
    refine e_iconst (v := 1) dX11_is_15 rfl ?_
    refine e_iadd dX11_is_16 ?_
    rw [nI_1 a]
    refine e_putI dX11_is_17 lkX11_143' tt_127 rfl rfl rfl ?_
    refine e_iconst (v := 1) dX11_is_20 rfl ?_
    refine e_reti dX11_is_21 ev_nw1 (Nat.le_refl _) (Nat.le_refl _) ?_
    exact ⟨Or.inl ⟨rfl, (sI_c (sgn_lt hX a) hc).mp h5, rfl⟩, rfl⟩
  · skip
    refine e_iconst (v := 0) dX11_is_8 rfl ?_
    refine e_reti dX11_is_9 ev_nw0 (Nat.le_refl _) (Nat.le_refl _) ?_
    exact ⟨Or.inr ⟨rfl, fun q => h5 ((sI_c (sgn_lt hX a) hc).mpr q), rfl⟩, rfl⟩

def TmR (p z : Nat) (X : Nat → Nat) (k : Nat) : Prop := ∀ (a t f : Nat) (σ : ex_S) (μ : ex_L), TXR σ z X → FR σ p → RV σ k (true, a, f) → a ≤ z → t < 16 → f < 2 ^ 20 →  Ci (3 + 2 * k) yX11_isT cX11_isT 4 (some .boolean) [.ref 127, .int (nI t)] TT σ μ (fun z' σ' μ' => z' = bN (tmP p X z k a t f).1 ∧ RV σ' k (tmP p X z k a t f) ∧ FrT σ σ' ∧ μ' = μ)
def SmR (p z : Nat) (X : Nat → Nat) (k : Nat) : Prop := ∀ (a t f : Nat) (σ : ex_S) (μ : ex_L), TXR σ z X → FR σ p → RV σ k (true, a, f) → a ≤ z → t < 16 → f < 2 ^ 20 →  Ci (4 + 2 * k) yX11_isE cX11_isE 3 (some .boolean) [.ref 127, .int (nI t)] TT σ μ (fun z' σ' μ' => z' = bN (smP p X z k a t f).1 ∧ RV σ' k (smP p X z k a t f) ∧ FrT σ σ' ∧ μ' = μ)

set_option maxRecDepth 100000 in
set_option maxHeartbeats 1000000 in
theorem c11_T0 {p z : Nat} {X : Nat → Nat} (hX : ∀ i, i < z → X i < 128) (hz : z ≤ 100) : TmR p z X 0 := by
  intro a t f σ μ hT hF hR ha ht hf
  have h3 : σ 127 19 = nI a := hR.1
  refine Cl_of (by decide +kernel) (Nat.le_of_ble_eq_true rfl) ?_
  show Ev RX11 cX11_isT 4 (3 + 2 * 0) 0 0 "isT" (some .boolean) ev_ext _ _ 0 0 0 [(0, .ref 127), (1, .int (nI t))] [] TT σ μ
  refine e_aload_n dX11_isT_0 rfl 0 rfl ?_
  refine e_bipush (v := 120) dX11_isT_1 rfl ?_
  refine e_callVi dX11_isT_3 cvX11_150 rfl tt_127 rfl (c11_is hX hz (a := a) (c := 120) ha (by decide) hT h3) (by omega) (Nat.le_refl _) (Nat.le_refl _) rfl (Nat.le_of_ble_eq_true rfl) (fun r3 s3 m3 q3 => ?_)
  obtain ⟨q3, g3⟩ := q3
  rw [g3]
  refine e_if_eq (t := 55) dX11_isT_6 (by decide) (fun h6 => ?_) (fun h6 => ?_)
  · skip
    have k3 : ¬ sgn X z a = 120 ∧ s3 = σ := by
      rcases q3 with q | q
      · exact absurd (q.1.symm.trans h6) (by decide)
      · exact ⟨q.2.1, q.2.2⟩
    rw [k3.2]
    refine e_aload_n dX11_isT_55 rfl 0 rfl ?_
    refine e_getI dX11_isT_56 lkX11_153 tt_127 rfl ?_
    refine e_iconst (v := 4) dX11_isT_59 rfl ?_
    rw [hR.2.1]
    refine e_icmp_ne (t := 65) dX11_isT_60 (by decide) (fun h60 => ?_) (fun h60 => ?_)
    · skip
      exact absurd (show nI (4 - 0) = 4 by decide) h60
    · skip
      refine e_iconst (v := 0) dX11_isT_63 rfl ?_
      refine e_reti dX11_isT_64 ev_nw0 (Nat.le_refl _) (Nat.le_refl _) ?_
      rw [tm_0 k3.1]
      exact ⟨rfl, hR, FrT.rf, rfl⟩
  · skip
    have k3 : sgn X z a = 120 ∧ s3 = sup σ 127 19 (nI (a + 1)) := by
      rcases q3 with q | q
      · exact ⟨q.2.1, q.2.2⟩
      · exact absurd q.1 h6
    rw [k3.2]
    have hs1 := s201 hX (a + 1)
    refine e_aload_n dX11_isT_9 rfl 0 rfl ?_
    refine e_callVi dX11_isT_10 cvX11_146 rfl tt_127 rfl (c11_sign hX hz (a := a + 1) (by have := sgn_in k3.1 (by decide); omega) (hT.fT (FrT.rf.s (Or.inl rfl))) sup_same) (by omega) (Nat.le_refl _) (Nat.le_refl _) rfl (Nat.le_of_ble_eq_true rfl) (fun r10 s10 m10 q10 => ?_)
    obtain ⟨q10, e10, g10⟩ := q10
    rw [e10, g10]
    clear e10 g10 s10 m10
    refine e_bipush (v := 48) dX11_isT_13 rfl ?_
    refine e_bipush (v := 52) dX11_isT_15 rfl ?_
    rw [q10]
    refine e_callSi dX11_isT_17 cvX11_99 rfl (c11_within (sI (sgn X z (a + 1))) 48 52) (by omega) (Nat.le_refl _) (Nat.le_refl _) rfl (Nat.le_of_ble_eq_true rfl) (fun r17 s17 m17 q17 => ?_)
    obtain ⟨q17, e17, g17⟩ := q17
    rw [e17, g17]
    clear e17 g17 s17 m17
    refine e_if_ne (t := 25) dX11_isT_20 (by decide) (fun h20 => ?_) (fun h20 => ?_)
    · skip
      rw [q17, bI_eq0] at h20
      have hd4 := (dt_4 _ hs1).mp (Classical.not_not.mp h20)
      have hs5 := dt_5 _ hs1 hd4
      refine e_aload_n dX11_isT_25 rfl 0 rfl ?_
      refine e_callVi dX11_isT_26 cvX11_146 rfl tt_127 rfl (c11_sign hX hz (a := a + 1) (by have := sgn_in k3.1 (by decide); omega) (hT.fT (FrT.rf.s (Or.inl rfl))) sup_same) (by omega) (Nat.le_refl _) (Nat.le_refl _) rfl (Nat.le_of_ble_eq_true rfl) (fun r26 s26 m26 q26 => ?_)
      obtain ⟨q26, e26, g26⟩ := q26
      rw [e26, g26]
      clear e26 g26 s26 m26
      rw [q26]
      refine e_bipush (v := 48) dX11_isT_29 rfl ?_
      refine e_isub dX11_isT_31 ?_
      refine e_istore_n [(0, .ref 127), (1, .int (nI t)), (2, .int (sI (sgn X z (a + 1)) - 48))] dX11_isT_32 rfl (by decide) rfl ?_
      refine e_aload_n dX11_isT_33 rfl 0 rfl ?_
      refine e_getR dX11_isT_34 lkX11_51 tt_127 rfl ?_
      refine e_iload_n dX11_isT_37 rfl 2 rfl ?_
      refine e_dup2 dX11_isT_38 rfl rfl ?_
      refine e_iald dX11_isT_39 tt_141 (by rw [hs5]; exact vp_in_nI (by omega) (by decide)) ?_
      rw [hs5, i_cl (show sgn X z (a + 1) - 48 < 2 ^ 31 by omega), sup_obj (show (141 : Nat) ≠ 127 by decide), hR.2.2 _ (by omega)]
      refine e_iload_n dX11_isT_40 rfl 1 rfl ?_
      refine e_ixor dX11_isT_41 ?_
      rw [nx_xor]
      refine e_iast dX11_isT_42 tt_141 (vp_in_nI (by omega) (by decide)) ?_
      refine e_aload_n dX11_isT_43 rfl 0 rfl ?_
      refine e_dup dX11_isT_44 rfl ?_
      refine e_getI dX11_isT_45 lkX11_143 tt_127 rfl ?_
      rw [sup_obj (show (127 : Nat) ≠ 141 by decide), sup_same]
      refine e_iconst (v := 1) dX11_isT_48 rfl ?_
      refine e_iadd dX11_isT_49 ?_
      rw [nI_1 (a + 1)]
      refine e_putI dX11_isT_50 lkX11_143' tt_127 rfl rfl rfl ?_
      refine e_iconst (v := 1) dX11_isT_53 rfl ?_
      refine e_reti dX11_isT_54 ev_nw1 (Nat.le_refl _) (Nat.le_refl _) ?_
      rw [i_cl (show sgn X z (a + 1) - 48 < 2 ^ 31 by omega)]
      rw [tm_x k3.1, dat_y hd4]
      refine ⟨rfl, ⟨sup_same, by rw [sup_idx (by decide), sup_obj (by decide), sup_idx (by decide)]; exact hR.2.1, fun c hc => ?_⟩, ((FrT.rf.s (Or.inl rfl)).a).s (Or.inl rfl), rfl⟩
      rw [sup_obj (by decide)]
      show sup _ 141 (sgn X z (a + 1) - 48) _ 141 c = nI (nib (f ^^^ t * 2 ^ (4 * (sgn X z (a + 1) - 48))) c)
      rw [nib_xor, nib_sh ht c hc (by omega)]
      by_cases e : c = sgn X z (a + 1) - 48
      · rw [if_pos e, e, sup_same]
      · rw [if_neg e, sup_idx e, sup_obj (by decide), Nat.xor_zero]
        exact hR.2.2 c hc
    · skip
      rw [q17] at h20
      have hd4 := fun q => bI_eq0.mp h20 ((dt_4 _ hs1).mpr q)
      refine e_iconst (v := 0) dX11_isT_23 rfl ?_
      refine e_reti dX11_isT_24 ev_nw0 (Nat.le_refl _) (Nat.le_refl _) ?_
      rw [tm_x k3.1, dat_n hd4]
      exact ⟨rfl, ⟨sup_same, by rw [sup_idx (by decide)]; exact hR.2.1, fun c hc => by rw [sup_obj (by decide)]; exact hR.2.2 c hc⟩, (FrT.rf.s (Or.inl rfl)), rfl⟩

set_option maxRecDepth 100000 in
set_option maxHeartbeats 2000000 in
theorem c11_TS {p : Nat} (hp : gP p) {z : Nat} {X : Nat → Nat} (hX : ∀ i, i < z → X i < 128) (hz : z ≤ 100) {k : Nat} (hk : k < 4) (hTm : TmR p z X k) (hSm : SmR p z X k) : TmR p z X (k + 1) := by
  intro a t f σ μ hT hF hR ha ht hf
  have h3 : σ 127 19 = nI a := hR.1
  have hs := s201 hX a
  refine Cl_of (by decide +kernel) (Nat.le_of_ble_eq_true rfl) ?_
  show Ev RX11 cX11_isT 4 (3 + 2 * (k + 1)) 0 0 "isT" (some .boolean) ev_ext _ _ 0 0 0 [(0, .ref 127), (1, .int (nI t))] [] TT σ μ
  have cont : ¬ sgn X z a = 120 → Ev RX11 cX11_isT 4 (3 + 2 * (k + 1)) 0 0 "isT" (some .boolean) ev_ext TT.length (fun v9 T9 σ9 μ9 => T9 = TT ∧ ∃ z9, v9 = some (.int z9) ∧ (fun z' σ' μ' => z' = bN (tmP p X z (k + 1) a t f).1 ∧ RV σ' (k + 1) (tmP p X z (k + 1) a t f) ∧ FrT σ σ' ∧ μ' = μ) z9 σ9 μ9) 0 0 118 [(0, .ref 127), (1, .int (nI t)), (2, .int (hxI (sgn X z a)))] [] TT σ μ := by
    intro hn
    refine e_iload_n dX11_isT_118 rfl 2 rfl ?_
    refine e_iconst (v := (-1)) dX11_isT_119 rfl ?_
    refine e_icmp_eq (t := 168) dX11_isT_120 (by decide) (fun h120 => ?_) (fun h120 => ?_)
    · skip
      have hx : ¬ hxN (sgn X z a) < 16 := (hx_m1 _ hs).mp h120
      refine e_aload_n dX11_isT_168 rfl 0 rfl ?_
      refine e_bipush (v := 40) dX11_isT_169 rfl ?_
      refine e_callVi dX11_isT_171 cvX11_150 rfl tt_127 rfl (c11_is hX hz (a := a) (c := 40) ha (by decide) hT h3) (by omega) (Nat.le_refl _) (Nat.le_refl _) rfl (Nat.le_of_ble_eq_true rfl) (fun r171 s171 m171 q171 => ?_)
      obtain ⟨q171, g171⟩ := q171
      rw [g171]
      refine e_if_ne (t := 179) dX11_isT_174 (by decide) (fun h174 => ?_) (fun h174 => ?_)
      · skip
        have k171 : sgn X z a = 40 ∧ s171 = sup σ 127 19 (nI (a + 1)) := by
          rcases q171 with q | q
          · exact ⟨q.2.1, q.2.2⟩
          · exact absurd q.1 h174
        rw [k171.2]
        have hao : a + 1 ≤ z := sgn_in k171.1 (by decide)
        have hb : PB z (a + 1) (smP p X z k (a + 1) t f) := sm_b hp hao ht hf 100
        refine e_aload_n dX11_isT_179 rfl 0 rfl ?_
        refine e_dup dX11_isT_180 rfl ?_
        refine e_getI dX11_isT_181 lkX11_153 tt_127 rfl ?_
        rw [sup_idx (show (20 : Nat) ≠ 19 by decide), hR.2.1]
        refine e_iconst (v := 1) dX11_isT_184 rfl ?_
        refine e_iadd dX11_isT_185 ?_
        rw [nI_1 (4 - (k + 1)), show 4 - (k + 1) + 1 = 4 - k by omega]
        refine e_putI dX11_isT_186 lkX11_153' tt_127 rfl rfl rfl ?_
        refine e_aload_n dX11_isT_189 rfl 0 rfl ?_
        refine e_iload_n dX11_isT_190 rfl 1 rfl ?_
        refine e_callVi dX11_isT_191 cvX11_159 rfl tt_127 rfl (hSm (a + 1) t f _ μ (hT.fT ((FrT.rf.s (Or.inl rfl)).s (Or.inr rfl))) (hF.fT ((FrT.rf.s (Or.inl rfl)).s (Or.inr rfl))) ⟨by rw [sup_idx (by decide), sup_same], sup_same, fun c hc => by rw [sup_obj (by decide), sup_obj (by decide)]; exact hR.2.2 c hc⟩ hao ht hf) (by omega) (Nat.le_refl _) (Nat.le_refl _) rfl (Nat.le_of_ble_eq_true rfl) (fun r191 s191 m191 q191 => ?_)
        obtain ⟨q191, p191, f191, g191⟩ := q191
        rw [g191]
        refine e_if_eq (t := 210) dX11_isT_194 (by decide) (fun h194 => ?_) (fun h194 => ?_)
        · skip
          have hr1 : ¬ (smP p X z k (a + 1) t f).1 = true := fun q => by
            rw [q191, q] at h194
            exact absurd h194 (by decide)
          refine e_iconst (v := 0) dX11_isT_210 rfl ?_
          refine e_istore_n [(0, .ref 127), (1, .int (nI t)), (2, .int (hxI (sgn X z a))), (3, .int 0)] dX11_isT_211 rfl (by decide) rfl ?_
          refine e_aload_n dX11_isT_212 rfl 0 rfl ?_
          refine e_dup dX11_isT_213 rfl ?_
          refine e_getI dX11_isT_214 lkX11_153 tt_127 rfl ?_
          rw [p191.2.1]
          refine e_iconst (v := 1) dX11_isT_217 rfl ?_
          refine e_isub dX11_isT_218 ?_
          rw [show nI (4 - k) - 1 = nI (4 - (k + 1)) from (i_sub (a := 4 - k) (b := 1) (by omega)).trans (by rw [show 4 - k - 1 = 4 - (k + 1) by omega])]
          refine e_putI dX11_isT_219 lkX11_153' tt_127 rfl rfl rfl ?_
          refine e_iload_n dX11_isT_222 rfl 3 rfl ?_
          refine e_reti dX11_isT_223 ev_nw0 (Nat.le_refl _) (Nat.le_refl _) ?_
          rw [tm_o k171.1, clo_n (fun q => hr1 q.1)]
          exact ⟨rfl, ⟨by rw [sup_idx (by decide)]; exact p191.1, sup_same, fun c hc => by rw [sup_obj (by decide)]; exact p191.2.2 c hc⟩, (((FrT.rf.s (Or.inl rfl)).s (Or.inr rfl)).tr f191).s (Or.inr rfl), rfl⟩
        · skip
          have hr1 : (smP p X z k (a + 1) t f).1 = true := by
            cases h9 : (smP p X z k (a + 1) t f).1 with
            | true => rfl
            | false => rw [q191, h9] at h194; exact absurd rfl h194
          refine e_aload_n dX11_isT_197 rfl 0 rfl ?_
          refine e_bipush (v := 41) dX11_isT_198 rfl ?_
          refine e_callVi dX11_isT_200 cvX11_150 rfl tt_127 rfl (c11_is hX hz (a := (smP p X z k (a + 1) t f).2.1) (c := 41) hb.2.1 (by decide) ((hT.fT ((FrT.rf.s (Or.inl rfl)).s (Or.inr rfl))).fT f191) p191.1) (by omega) (Nat.le_refl _) (Nat.le_refl _) rfl (Nat.le_of_ble_eq_true rfl) (fun r200 s200 m200 q200 => ?_)
          obtain ⟨q200, g200⟩ := q200
          rw [g200]
          refine e_if_eq (t := 210) dX11_isT_203 (by decide) (fun h203 => ?_) (fun h203 => ?_)
          · skip
            have k200 : ¬ sgn X z (smP p X z k (a + 1) t f).2.1 = 41 ∧ s200 = s191 := by
              rcases q200 with q | q
              · exact absurd (q.1.symm.trans h203) (by decide)
              · exact ⟨q.2.1, q.2.2⟩
            rw [k200.2]
            refine e_iconst (v := 0) dX11_isT_210 rfl ?_
            refine e_istore_n [(0, .ref 127), (1, .int (nI t)), (2, .int (hxI (sgn X z a))), (3, .int 0)] dX11_isT_211 rfl (by decide) rfl ?_
            refine e_aload_n dX11_isT_212 rfl 0 rfl ?_
            refine e_dup dX11_isT_213 rfl ?_
            refine e_getI dX11_isT_214 lkX11_153 tt_127 rfl ?_
            rw [p191.2.1]
            refine e_iconst (v := 1) dX11_isT_217 rfl ?_
            refine e_isub dX11_isT_218 ?_
            rw [show nI (4 - k) - 1 = nI (4 - (k + 1)) from (i_sub (a := 4 - k) (b := 1) (by omega)).trans (by rw [show 4 - k - 1 = 4 - (k + 1) by omega])]
            refine e_putI dX11_isT_219 lkX11_153' tt_127 rfl rfl rfl ?_
            refine e_iload_n dX11_isT_222 rfl 3 rfl ?_
            refine e_reti dX11_isT_223 ev_nw0 (Nat.le_refl _) (Nat.le_refl _) ?_
            rw [tm_o k171.1, clo_n (fun q => k200.1 q.2)]
            exact ⟨rfl, ⟨by rw [sup_idx (by decide)]; exact p191.1, sup_same, fun c hc => by rw [sup_obj (by decide)]; exact p191.2.2 c hc⟩, (((FrT.rf.s (Or.inl rfl)).s (Or.inr rfl)).tr f191).s (Or.inr rfl), rfl⟩
          · skip
            have k200 : sgn X z (smP p X z k (a + 1) t f).2.1 = 41 ∧ s200 = sup s191 127 19 (nI ((smP p X z k (a + 1) t f).2.1 + 1)) := by
              rcases q200 with q | q
              · exact ⟨q.2.1, q.2.2⟩
              · exact absurd q.1 h203
            rw [k200.2]
            refine e_iconst (v := 1) dX11_isT_206 rfl ?_
            refine e_goto (t := 211) dX11_isT_207 (by decide) ?_
            refine e_istore_n [(0, .ref 127), (1, .int (nI t)), (2, .int (hxI (sgn X z a))), (3, .int 1)] dX11_isT_211 rfl (by decide) rfl ?_
            refine e_aload_n dX11_isT_212 rfl 0 rfl ?_
            refine e_dup dX11_isT_213 rfl ?_
            refine e_getI dX11_isT_214 lkX11_153 tt_127 rfl ?_
            rw [sup_idx (show (20 : Nat) ≠ 19 by decide), p191.2.1]
            refine e_iconst (v := 1) dX11_isT_217 rfl ?_
            refine e_isub dX11_isT_218 ?_
            rw [show nI (4 - k) - 1 = nI (4 - (k + 1)) from (i_sub (a := 4 - k) (b := 1) (by omega)).trans (by rw [show 4 - k - 1 = 4 - (k + 1) by omega])]
            refine e_putI dX11_isT_219 lkX11_153' tt_127 rfl rfl rfl ?_
            refine e_iload_n dX11_isT_222 rfl 3 rfl ?_
            refine e_reti dX11_isT_223 ev_nw1 (Nat.le_refl _) (Nat.le_refl _) ?_
            rw [tm_o k171.1, clo_y hr1 k200.1]
            exact ⟨rfl, ⟨by rw [sup_idx (by decide), sup_same], sup_same, fun c hc => by rw [sup_obj (by decide), sup_obj (by decide)]; exact p191.2.2 c hc⟩, ((((FrT.rf.s (Or.inl rfl)).s (Or.inr rfl)).tr f191).s (Or.inl rfl)).s (Or.inr rfl), rfl⟩
      · skip
        have k171 : ¬ sgn X z a = 40 ∧ s171 = σ := by
          rcases q171 with q | q
          · exact absurd (q.1.symm.trans h174) (by decide)
          · exact ⟨q.2.1, q.2.2⟩
        rw [k171.2]
        refine e_iconst (v := 0) dX11_isT_177 rfl ?_
        refine e_reti dX11_isT_178 ev_nw0 (Nat.le_refl _) (Nat.le_refl _) ?_
        rw [tm_n hn hx k171.1]
        exact ⟨rfl, hR, FrT.rf, rfl⟩
    · skip
      have hx : hxN (sgn X z a) < 16 := Classical.not_not.mp (fun q => h120 ((hx_m1 _ hs).mpr q))
      have haz := hx_in hx
      have hci : hxI (sgn X z a) = nI (hxN (sgn X z a)) := if_pos hx
      rw [hci]
      refine e_aload_n dX11_isT_123 rfl 0 rfl ?_
      refine e_dup dX11_isT_124 rfl ?_
      refine e_getI dX11_isT_125 lkX11_143 tt_127 rfl ?_
      rw [h3]
      refine e_iconst (v := 1) dX11_isT_128 rfl ?_
      refine e_iadd dX11_isT_129 ?_
      rw [nI_1 a]
      refine e_putI dX11_isT_130 lkX11_143' tt_127 rfl rfl rfl ?_
      refine e_aload_n dX11_isT_133 rfl 0 rfl ?_
      refine e_bipush (v := 42) dX11_isT_134 rfl ?_
      refine e_callVi dX11_isT_136 cvX11_150 rfl tt_127 rfl (c11_is hX hz (a := (a + 1)) (c := 42) haz (by decide) (hT.fT (FrT.rf.s (Or.inl rfl))) sup_same) (by omega) (Nat.le_refl _) (Nat.le_refl _) rfl (Nat.le_of_ble_eq_true rfl) (fun r136 s136 m136 q136 => ?_)
      obtain ⟨q136, g136⟩ := q136
      rw [g136]
      refine e_if_ne (t := 144) dX11_isT_139 (by decide) (fun h139 => ?_) (fun h139 => ?_)
      · skip
        have k136 : sgn X z (a + 1) = 42 ∧ s136 = sup (sup σ 127 19 (nI (a + 1))) 127 19 (nI (a + 1 + 1)) := by
          rcases q136 with q | q
          · exact ⟨q.2.1, q.2.2⟩
          · exact absurd q.1 h139
        rw [k136.2]
        refine e_aload_n dX11_isT_144 rfl 0 rfl ?_
        refine e_dup dX11_isT_145 rfl ?_
        refine e_getI dX11_isT_146 lkX11_153 tt_127 rfl ?_
        rw [sup_idx (show (20 : Nat) ≠ 19 by decide), sup_idx (show (20 : Nat) ≠ 19 by decide), hR.2.1]
        refine e_iconst (v := 1) dX11_isT_149 rfl ?_
        refine e_iadd dX11_isT_150 ?_
        rw [nI_1 (4 - (k + 1)), show 4 - (k + 1) + 1 = 4 - k by omega]
        refine e_putI dX11_isT_151 lkX11_153' tt_127 rfl rfl rfl ?_
        refine e_aload_n dX11_isT_154 rfl 0 rfl ?_
        refine e_aload_n dX11_isT_155 rfl 0 rfl ?_
        refine e_iload_n dX11_isT_156 rfl 1 rfl ?_
        refine e_iload_n dX11_isT_157 rfl 2 rfl ?_
        refine e_callVi dX11_isT_158 cvX11_128 rfl tt_127 rfl (c11_times hp ht hx (hF.fT (((FrT.rf.s (Or.inl rfl)).s (Or.inl rfl)).s (Or.inr rfl)))) (by omega) (Nat.le_refl _) (Nat.le_refl _) rfl (Nat.le_of_ble_eq_true rfl) (fun r158 s158 m158 q158 => ?_)
        obtain ⟨q158, e158, g158⟩ := q158
        rw [e158, g158]
        clear e158 g158 s158 m158
        rw [q158]
        refine e_callVi dX11_isT_161 cvX11_156 rfl tt_127 rfl (hTm (a + 2) (gmul p t (hxN (sgn X z a))) f _ μ (hT.fT (((FrT.rf.s (Or.inl rfl)).s (Or.inl rfl)).s (Or.inr rfl))) (hF.fT (((FrT.rf.s (Or.inl rfl)).s (Or.inl rfl)).s (Or.inr rfl))) ⟨by rw [sup_idx (by decide), sup_same], sup_same, fun c hc => by rw [sup_obj (by decide), sup_obj (by decide), sup_obj (by decide)]; exact hR.2.2 c hc⟩ (by have := sgn_in k136.1 (by decide); omega) (gmul_lt hp _ ht _ hx) hf) (by omega) (Nat.le_refl _) (Nat.le_refl _) rfl (Nat.le_of_ble_eq_true rfl) (fun r161 s161 m161 q161 => ?_)
        obtain ⟨q161, p161, f161, g161⟩ := q161
        rw [g161]
        refine e_istore_n [(0, .ref 127), (1, .int (nI t)), (2, .int (nI (hxN (sgn X z a)))), (3, .int r161)] dX11_isT_164 rfl (by decide) rfl ?_
        refine e_goto (t := 212) dX11_isT_165 (by decide) ?_
        refine e_aload_n dX11_isT_212 rfl 0 rfl ?_
        refine e_dup dX11_isT_213 rfl ?_
        refine e_getI dX11_isT_214 lkX11_153 tt_127 rfl ?_
        rw [p161.2.1]
        refine e_iconst (v := 1) dX11_isT_217 rfl ?_
        refine e_isub dX11_isT_218 ?_
        rw [show nI (4 - k) - 1 = nI (4 - (k + 1)) from (i_sub (a := 4 - k) (b := 1) (by omega)).trans (by rw [show 4 - k - 1 = 4 - (k + 1) by omega])]
        refine e_putI dX11_isT_219 lkX11_153' tt_127 rfl rfl rfl ?_
        refine e_iload_n dX11_isT_222 rfl 3 rfl ?_
        refine e_reti dX11_isT_223 (ev_nwb (by rw [q161]; exact (bN_01 _).symm.elim Or.inr Or.inl)) (Nat.le_refl _) (Nat.le_refl _) ?_
        rw [tm_c hx k136.1]
        exact ⟨q161, ⟨by rw [sup_idx (by decide)]; exact p161.1, sup_same, fun c hc => by rw [sup_obj (by decide)]; exact p161.2.2 c hc⟩, ((((FrT.rf.s (Or.inl rfl)).s (Or.inl rfl)).s (Or.inr rfl)).tr f161).s (Or.inr rfl), rfl⟩
      · skip
        have k136 : ¬ sgn X z (a + 1) = 42 ∧ s136 = sup σ 127 19 (nI (a + 1)) := by
          rcases q136 with q | q
          · exact absurd (q.1.symm.trans h139) (by decide)
          · exact ⟨q.2.1, q.2.2⟩
        rw [k136.2]
        refine e_iconst (v := 0) dX11_isT_142 rfl ?_
        refine e_reti dX11_isT_143 ev_nw0 (Nat.le_refl _) (Nat.le_refl _) ?_
        rw [tm_cn hx k136.1]
        exact ⟨rfl, ⟨sup_same, by rw [sup_idx (by decide)]; exact hR.2.1, fun c hc => by rw [sup_obj (by decide)]; exact hR.2.2 c hc⟩, (FrT.rf.s (Or.inl rfl)), rfl⟩
  refine e_aload_n dX11_isT_0 rfl 0 rfl ?_
  refine e_bipush (v := 120) dX11_isT_1 rfl ?_
  refine e_callVi dX11_isT_3 cvX11_150 rfl tt_127 rfl (c11_is hX hz (a := a) (c := 120) ha (by decide) hT h3) (by omega) (Nat.le_refl _) (Nat.le_refl _) rfl (Nat.le_of_ble_eq_true rfl) (fun r3 s3 m3 q3 => ?_)
  obtain ⟨q3, g3⟩ := q3
  rw [g3]
  refine e_if_eq (t := 55) dX11_isT_6 (by decide) (fun h6 => ?_) (fun h6 => ?_)
  · skip
    have k3 : ¬ sgn X z a = 120 ∧ s3 = σ := by
      rcases q3 with q | q
      · exact absurd (q.1.symm.trans h6) (by decide)
      · exact ⟨q.2.1, q.2.2⟩
    rw [k3.2]
    refine e_aload_n dX11_isT_55 rfl 0 rfl ?_
    refine e_getI dX11_isT_56 lkX11_153 tt_127 rfl ?_
    refine e_iconst (v := 4) dX11_isT_59 rfl ?_
    rw [hR.2.1]
    refine e_icmp_ne (t := 65) dX11_isT_60 (by decide) (fun h60 => ?_) (fun h60 => ?_)
    · skip
      refine e_aload_n dX11_isT_65 rfl 0 rfl ?_
      refine e_callVi dX11_isT_66 cvX11_146 rfl tt_127 rfl (c11_sign hX hz ha hT h3) (by omega) (Nat.le_refl _) (Nat.le_refl _) rfl (Nat.le_of_ble_eq_true rfl) (fun r66 s66 m66 q66 => ?_)
      obtain ⟨q66, e66, g66⟩ := q66
      rw [e66, g66]
      clear e66 g66 s66 m66
      refine e_bipush (v := 48) dX11_isT_69 rfl ?_
      refine e_bipush (v := 57) dX11_isT_71 rfl ?_
      rw [q66]
      refine e_callSi dX11_isT_73 cvX11_99 rfl (c11_within (sI (sgn X z a)) 48 57) (by omega) (Nat.le_refl _) (Nat.le_refl _) rfl (Nat.le_of_ble_eq_true rfl) (fun r73 s73 m73 q73 => ?_)
      obtain ⟨q73, e73, g73⟩ := q73
      rw [e73, g73]
      clear e73 g73 s73 m73
      refine e_if_eq (t := 89) dX11_isT_76 (by decide) (fun h76 => ?_) (fun h76 => ?_)
      · skip
        rw [q73, bI_eq0] at h76
        have hnd : sI (sgn X z a) < 48 ∨ 57 < sI (sgn X z a) := by
          by_cases e : sI (sgn X z a) < 48
          · exact Or.inl e
          · exact Or.inr (Int32.not_le.mp (fun q => h76 ⟨Int32.not_lt.mp e, q⟩))
        refine e_aload_n dX11_isT_89 rfl 0 rfl ?_
        refine e_callVi dX11_isT_90 cvX11_146 rfl tt_127 rfl (c11_sign hX hz ha hT h3) (by omega) (Nat.le_refl _) (Nat.le_refl _) rfl (Nat.le_of_ble_eq_true rfl) (fun r90 s90 m90 q90 => ?_)
        obtain ⟨q90, e90, g90⟩ := q90
        rw [e90, g90]
        clear e90 g90 s90 m90
        refine e_bipush (v := 97) dX11_isT_93 rfl ?_
        refine e_bipush (v := 102) dX11_isT_95 rfl ?_
        rw [q90]
        refine e_callSi dX11_isT_97 cvX11_99 rfl (c11_within (sI (sgn X z a)) 97 102) (by omega) (Nat.le_refl _) (Nat.le_refl _) rfl (Nat.le_of_ble_eq_true rfl) (fun r97 s97 m97 q97 => ?_)
        obtain ⟨q97, e97, g97⟩ := q97
        rw [e97, g97]
        clear e97 g97 s97 m97
        refine e_if_eq (t := 116) dX11_isT_100 (by decide) (fun h100 => ?_) (fun h100 => ?_)
        · skip
          rw [q97, bI_eq0] at h100
          have hne : sI (sgn X z a) < 97 ∨ 102 < sI (sgn X z a) := by
            by_cases e : sI (sgn X z a) < 97
            · exact Or.inl e
            · exact Or.inr (Int32.not_le.mp (fun q => h100 ⟨Int32.not_lt.mp e, q⟩))
          have hce := hx_3 _ hs hnd hne
          refine e_iconst (v := (-1)) dX11_isT_116 rfl ?_
          rw [hce]
          refine e_istore_n [(0, .ref 127), (1, .int (nI t)), (2, .int (hxI (sgn X z a)))] dX11_isT_117 rfl (by decide) rfl ?_
          exact cont k3.1
        · skip
          rw [q97, bI_eq0] at h100
          have hdd := Classical.not_not.mp h100
          have hce := hx_2 _ hs hnd (Int32.not_lt.mpr hdd.1) (Int32.not_lt.mpr hdd.2)
          refine e_aload_n dX11_isT_103 rfl 0 rfl ?_
          refine e_callVi dX11_isT_104 cvX11_146 rfl tt_127 rfl (c11_sign hX hz ha hT h3) (by omega) (Nat.le_refl _) (Nat.le_refl _) rfl (Nat.le_of_ble_eq_true rfl) (fun r104 s104 m104 q104 => ?_)
          obtain ⟨q104, e104, g104⟩ := q104
          rw [e104, g104]
          clear e104 g104 s104 m104
          rw [q104]
          refine e_bipush (v := 97) dX11_isT_107 rfl ?_
          refine e_isub dX11_isT_109 ?_
          refine e_bipush (v := 10) dX11_isT_110 rfl ?_
          refine e_iadd dX11_isT_112 ?_
          refine e_goto (t := 117) dX11_isT_113 (by decide) ?_
          rw [hce]
          refine e_istore_n [(0, .ref 127), (1, .int (nI t)), (2, .int (hxI (sgn X z a)))] dX11_isT_117 rfl (by decide) rfl ?_
          exact cont k3.1
      · skip
        rw [q73, bI_eq0] at h76
        have hdd := Classical.not_not.mp h76
        have hce := hx_1 _ hs (Int32.not_lt.mpr hdd.1) (Int32.not_lt.mpr hdd.2)
        refine e_aload_n dX11_isT_79 rfl 0 rfl ?_
        refine e_callVi dX11_isT_80 cvX11_146 rfl tt_127 rfl (c11_sign hX hz ha hT h3) (by omega) (Nat.le_refl _) (Nat.le_refl _) rfl (Nat.le_of_ble_eq_true rfl) (fun r80 s80 m80 q80 => ?_)
        obtain ⟨q80, e80, g80⟩ := q80
        rw [e80, g80]
        clear e80 g80 s80 m80
        rw [q80]
        refine e_bipush (v := 48) dX11_isT_83 rfl ?_
        refine e_isub dX11_isT_85 ?_
        refine e_goto (t := 117) dX11_isT_86 (by decide) ?_
        rw [hce]
        refine e_istore_n [(0, .ref 127), (1, .int (nI t)), (2, .int (hxI (sgn X z a)))] dX11_isT_117 rfl (by decide) rfl ?_
        exact cont k3.1
    · skip
      exact absurd ((i_eq (b := 4) (by omega) (by decide)).mp h60) (by omega)
  · skip
    have k3 : sgn X z a = 120 ∧ s3 = sup σ 127 19 (nI (a + 1)) := by
      rcases q3 with q | q
      · exact ⟨q.2.1, q.2.2⟩
      · exact absurd q.1 h6
    rw [k3.2]
    have hs1 := s201 hX (a + 1)
    refine e_aload_n dX11_isT_9 rfl 0 rfl ?_
    refine e_callVi dX11_isT_10 cvX11_146 rfl tt_127 rfl (c11_sign hX hz (a := a + 1) (by have := sgn_in k3.1 (by decide); omega) (hT.fT (FrT.rf.s (Or.inl rfl))) sup_same) (by omega) (Nat.le_refl _) (Nat.le_refl _) rfl (Nat.le_of_ble_eq_true rfl) (fun r10 s10 m10 q10 => ?_)
    obtain ⟨q10, e10, g10⟩ := q10
    rw [e10, g10]
    clear e10 g10 s10 m10
    refine e_bipush (v := 48) dX11_isT_13 rfl ?_
    refine e_bipush (v := 52) dX11_isT_15 rfl ?_
    rw [q10]
    refine e_callSi dX11_isT_17 cvX11_99 rfl (c11_within (sI (sgn X z (a + 1))) 48 52) (by omega) (Nat.le_refl _) (Nat.le_refl _) rfl (Nat.le_of_ble_eq_true rfl) (fun r17 s17 m17 q17 => ?_)
    obtain ⟨q17, e17, g17⟩ := q17
    rw [e17, g17]
    clear e17 g17 s17 m17
    refine e_if_ne (t := 25) dX11_isT_20 (by decide) (fun h20 => ?_) (fun h20 => ?_)
    · skip
      rw [q17, bI_eq0] at h20
      have hd4 := (dt_4 _ hs1).mp (Classical.not_not.mp h20)
      have hs5 := dt_5 _ hs1 hd4
      refine e_aload_n dX11_isT_25 rfl 0 rfl ?_
      refine e_callVi dX11_isT_26 cvX11_146 rfl tt_127 rfl (c11_sign hX hz (a := a + 1) (by have := sgn_in k3.1 (by decide); omega) (hT.fT (FrT.rf.s (Or.inl rfl))) sup_same) (by omega) (Nat.le_refl _) (Nat.le_refl _) rfl (Nat.le_of_ble_eq_true rfl) (fun r26 s26 m26 q26 => ?_)
      obtain ⟨q26, e26, g26⟩ := q26
      rw [e26, g26]
      clear e26 g26 s26 m26
      rw [q26]
      refine e_bipush (v := 48) dX11_isT_29 rfl ?_
      refine e_isub dX11_isT_31 ?_
      refine e_istore_n [(0, .ref 127), (1, .int (nI t)), (2, .int (sI (sgn X z (a + 1)) - 48))] dX11_isT_32 rfl (by decide) rfl ?_
      refine e_aload_n dX11_isT_33 rfl 0 rfl ?_
      refine e_getR dX11_isT_34 lkX11_51 tt_127 rfl ?_
      refine e_iload_n dX11_isT_37 rfl 2 rfl ?_
      refine e_dup2 dX11_isT_38 rfl rfl ?_
      refine e_iald dX11_isT_39 tt_141 (by rw [hs5]; exact vp_in_nI (by omega) (by decide)) ?_
      rw [hs5, i_cl (show sgn X z (a + 1) - 48 < 2 ^ 31 by omega), sup_obj (show (141 : Nat) ≠ 127 by decide), hR.2.2 _ (by omega)]
      refine e_iload_n dX11_isT_40 rfl 1 rfl ?_
      refine e_ixor dX11_isT_41 ?_
      rw [nx_xor]
      refine e_iast dX11_isT_42 tt_141 (vp_in_nI (by omega) (by decide)) ?_
      refine e_aload_n dX11_isT_43 rfl 0 rfl ?_
      refine e_dup dX11_isT_44 rfl ?_
      refine e_getI dX11_isT_45 lkX11_143 tt_127 rfl ?_
      rw [sup_obj (show (127 : Nat) ≠ 141 by decide), sup_same]
      refine e_iconst (v := 1) dX11_isT_48 rfl ?_
      refine e_iadd dX11_isT_49 ?_
      rw [nI_1 (a + 1)]
      refine e_putI dX11_isT_50 lkX11_143' tt_127 rfl rfl rfl ?_
      refine e_iconst (v := 1) dX11_isT_53 rfl ?_
      refine e_reti dX11_isT_54 ev_nw1 (Nat.le_refl _) (Nat.le_refl _) ?_
      rw [i_cl (show sgn X z (a + 1) - 48 < 2 ^ 31 by omega)]
      rw [tm_x k3.1, dat_y hd4]
      refine ⟨rfl, ⟨sup_same, by rw [sup_idx (by decide), sup_obj (by decide), sup_idx (by decide)]; exact hR.2.1, fun c hc => ?_⟩, ((FrT.rf.s (Or.inl rfl)).a).s (Or.inl rfl), rfl⟩
      rw [sup_obj (by decide)]
      show sup _ 141 (sgn X z (a + 1) - 48) _ 141 c = nI (nib (f ^^^ t * 2 ^ (4 * (sgn X z (a + 1) - 48))) c)
      rw [nib_xor, nib_sh ht c hc (by omega)]
      by_cases e : c = sgn X z (a + 1) - 48
      · rw [if_pos e, e, sup_same]
      · rw [if_neg e, sup_idx e, sup_obj (by decide), Nat.xor_zero]
        exact hR.2.2 c hc
    · skip
      rw [q17] at h20
      have hd4 := fun q => bI_eq0.mp h20 ((dt_4 _ hs1).mpr q)
      refine e_iconst (v := 0) dX11_isT_23 rfl ?_
      refine e_reti dX11_isT_24 ev_nw0 (Nat.le_refl _) (Nat.le_refl _) ?_
      rw [tm_x k3.1, dat_n hd4]
      exact ⟨rfl, ⟨sup_same, by rw [sup_idx (by decide)]; exact hR.2.1, fun c hc => by rw [sup_obj (by decide)]; exact hR.2.2 c hc⟩, (FrT.rf.s (Or.inl rfl)), rfl⟩

set_option maxRecDepth 100000 in
theorem c11_E {p : Nat} (hp : gP p) {z : Nat} {X : Nat → Nat} (hX : ∀ i, i < z → X i < 128) (hz : z ≤ 100) {k : Nat} (hTm : TmR p z X k) : SmR p z X k := by
  intro a0 t f0 σ0 μ hT0 hF0 hR0 ha0 ht hf0
  refine Cl_of (by decide +kernel) (Nat.le_of_ble_eq_true rfl) ?_
  show Ev RX11 cX11_isE 3 (4 + 2 * k) 0 0 "isE" (some .boolean) ev_ext _ _ 0 0 0 [(0, .ref 127), (1, .int (nI t))] [] TT σ0 μ
  have loop : ∀ (n a f : Nat) (σ : ex_S), z ≤ a + n + 1 → a ≤ z → f < 2 ^ 20 → RV σ k (tmP p X z k a t f) → FrT σ0 σ → smF (fun a' f' => tmP p X z k a' t f') X z (n + 1) a f = smP p X z k a0 t f0 → Ev RX11 cX11_isE 3 (4 + 2 * k) 0 0 "isE" (some .boolean) ev_ext TT.length (fun v9 T9 σ9 μ9 => T9 = TT ∧ ∃ z9, v9 = some (.int z9) ∧ (fun z' σ' μ' => z' = bN (smP p X z k a0 t f0).1 ∧ RV σ' k (smP p X z k a0 t f0) ∧ FrT σ0 σ' ∧ μ' = μ) z9 σ9 μ9) 0 0 6 [(0, .ref 127), (1, .int (nI t)), (2, .int (bN (tmP p X z k a t f).1))] [] TT σ μ := by
    intro n
    induction n with
    | zero =>
      intro a f σ hn ha hf hv fr he
      have hb := tm_b (X := X) hp k a t f ha ht hf
      refine e_iload_n dX11_isE_6 rfl 2 rfl ?_
      refine e_if_eq (t := 28) dX11_isE_7 (by decide) (fun h7 => ?_) (fun h7 => ?_)
      · skip
        have hr1 : ¬ (tmP p X z k a t f).1 = true := fun q => by
          rw [q] at h7
          exact absurd h7 (by decide)
        refine e_iload_n dX11_isE_28 rfl 2 rfl ?_
        refine e_reti dX11_isE_29 (ev_nwb (bN_01 _)) (Nat.le_refl _) (Nat.le_refl _) ?_
        rw [smF_e (tm := fun a' f' => tmP p X z k a' t f') (fun q => hr1 q.1)] at he
        rw [← he]
        exact ⟨rfl, hv, fr, rfl⟩
      · skip
        have hr1 : (tmP p X z k a t f).1 = true := by
          cases h9 : (tmP p X z k a t f).1 with
          | true => rfl
          | false => rw [h9] at h7; exact absurd rfl h7
        refine e_aload_n dX11_isE_10 rfl 0 rfl ?_
        refine e_bipush (v := 43) dX11_isE_11 rfl ?_
        refine e_callVi dX11_isE_13 cvX11_150 rfl tt_127 rfl (c11_is hX hz (a := (tmP p X z k a t f).2.1) (c := 43) hb.2.1 (by decide) (hT0.fT fr) hv.1) (by omega) (Nat.le_refl _) (Nat.le_refl _) rfl (Nat.le_of_ble_eq_true rfl) (fun r13 s13 m13 q13 => ?_)
        obtain ⟨q13, g13⟩ := q13
        rw [g13]
        refine e_if_eq (t := 28) dX11_isE_16 (by decide) (fun h16 => ?_) (fun h16 => ?_)
        · skip
          have k13 : ¬ sgn X z (tmP p X z k a t f).2.1 = 43 ∧ s13 = σ := by
            rcases q13 with q | q
            · exact absurd (q.1.symm.trans h16) (by decide)
            · exact ⟨q.2.1, q.2.2⟩
          rw [k13.2]
          refine e_iload_n dX11_isE_28 rfl 2 rfl ?_
          refine e_reti dX11_isE_29 (ev_nwb (bN_01 _)) (Nat.le_refl _) (Nat.le_refl _) ?_
          rw [smF_e (tm := fun a' f' => tmP p X z k a' t f') (fun q => k13.1 q.2)] at he
          rw [← he]
          exact ⟨rfl, hv, fr, rfl⟩
        · skip
          have k13 : sgn X z (tmP p X z k a t f).2.1 = 43 ∧ s13 = sup σ 127 19 (nI ((tmP p X z k a t f).2.1 + 1)) := by
            rcases q13 with q | q
            · exact ⟨q.2.1, q.2.2⟩
            · exact absurd q.1 h16
          rw [k13.2]
          refine e_aload_n dX11_isE_19 rfl 0 rfl ?_
          refine e_iload_n dX11_isE_20 rfl 1 rfl ?_
          refine e_callVi dX11_isE_21 cvX11_156 rfl tt_127 rfl (hTm ((tmP p X z k a t f).2.1 + 1) t (tmP p X z k a t f).2.2 _ μ ((hT0.fT fr).fT (FrT.rf.s (Or.inl rfl))) ((hF0.fT fr).fT (FrT.rf.s (Or.inl rfl))) ⟨sup_same, by rw [sup_idx (by decide)]; exact hv.2.1, fun c hc => by rw [sup_obj (by decide)]; exact hv.2.2 c hc⟩ (sgn_in k13.1 (by decide)) ht hb.2.2.1) (by omega) (Nat.le_refl _) (Nat.le_refl _) rfl (Nat.le_of_ble_eq_true rfl) (fun r21 s21 m21 q21 => ?_)
          obtain ⟨q21, p21, f21, g21⟩ := q21
          rw [g21]
          rw [q21]
          refine e_istore_n [(0, .ref 127), (1, .int (nI t)), (2, .int (bN (tmP p X z k ((tmP p X z k a t f).2.1 + 1) t (tmP p X z k a t f).2.2).1))] dX11_isE_24 rfl (by decide) rfl ?_
          refine e_goto (t := 6) dX11_isE_25 (by decide) ?_
          have hlt := hb.2.2.2 hr1
          have := sgn_in k13.1 (by decide)
          omega
    | succ n ih =>
      intro a f σ hn ha hf hv fr he
      have hb := tm_b (X := X) hp k a t f ha ht hf
      refine e_iload_n dX11_isE_6 rfl 2 rfl ?_
      refine e_if_eq (t := 28) dX11_isE_7 (by decide) (fun h7 => ?_) (fun h7 => ?_)
      · skip
        have hr1 : ¬ (tmP p X z k a t f).1 = true := fun q => by
          rw [q] at h7
          exact absurd h7 (by decide)
        refine e_iload_n dX11_isE_28 rfl 2 rfl ?_
        refine e_reti dX11_isE_29 (ev_nwb (bN_01 _)) (Nat.le_refl _) (Nat.le_refl _) ?_
        rw [smF_e (tm := fun a' f' => tmP p X z k a' t f') (fun q => hr1 q.1)] at he
        rw [← he]
        exact ⟨rfl, hv, fr, rfl⟩
      · skip
        have hr1 : (tmP p X z k a t f).1 = true := by
          cases h9 : (tmP p X z k a t f).1 with
          | true => rfl
          | false => rw [h9] at h7; exact absurd rfl h7
        refine e_aload_n dX11_isE_10 rfl 0 rfl ?_
        refine e_bipush (v := 43) dX11_isE_11 rfl ?_
        refine e_callVi dX11_isE_13 cvX11_150 rfl tt_127 rfl (c11_is hX hz (a := (tmP p X z k a t f).2.1) (c := 43) hb.2.1 (by decide) (hT0.fT fr) hv.1) (by omega) (Nat.le_refl _) (Nat.le_refl _) rfl (Nat.le_of_ble_eq_true rfl) (fun r13 s13 m13 q13 => ?_)
        obtain ⟨q13, g13⟩ := q13
        rw [g13]
        refine e_if_eq (t := 28) dX11_isE_16 (by decide) (fun h16 => ?_) (fun h16 => ?_)
        · skip
          have k13 : ¬ sgn X z (tmP p X z k a t f).2.1 = 43 ∧ s13 = σ := by
            rcases q13 with q | q
            · exact absurd (q.1.symm.trans h16) (by decide)
            · exact ⟨q.2.1, q.2.2⟩
          rw [k13.2]
          refine e_iload_n dX11_isE_28 rfl 2 rfl ?_
          refine e_reti dX11_isE_29 (ev_nwb (bN_01 _)) (Nat.le_refl _) (Nat.le_refl _) ?_
          rw [smF_e (tm := fun a' f' => tmP p X z k a' t f') (fun q => k13.1 q.2)] at he
          rw [← he]
          exact ⟨rfl, hv, fr, rfl⟩
        · skip
          have k13 : sgn X z (tmP p X z k a t f).2.1 = 43 ∧ s13 = sup σ 127 19 (nI ((tmP p X z k a t f).2.1 + 1)) := by
            rcases q13 with q | q
            · exact ⟨q.2.1, q.2.2⟩
            · exact absurd q.1 h16
          rw [k13.2]
          refine e_aload_n dX11_isE_19 rfl 0 rfl ?_
          refine e_iload_n dX11_isE_20 rfl 1 rfl ?_
          refine e_callVi dX11_isE_21 cvX11_156 rfl tt_127 rfl (hTm ((tmP p X z k a t f).2.1 + 1) t (tmP p X z k a t f).2.2 _ μ ((hT0.fT fr).fT (FrT.rf.s (Or.inl rfl))) ((hF0.fT fr).fT (FrT.rf.s (Or.inl rfl))) ⟨sup_same, by rw [sup_idx (by decide)]; exact hv.2.1, fun c hc => by rw [sup_obj (by decide)]; exact hv.2.2 c hc⟩ (sgn_in k13.1 (by decide)) ht hb.2.2.1) (by omega) (Nat.le_refl _) (Nat.le_refl _) rfl (Nat.le_of_ble_eq_true rfl) (fun r21 s21 m21 q21 => ?_)
          obtain ⟨q21, p21, f21, g21⟩ := q21
          rw [g21]
          rw [q21]
          refine e_istore_n [(0, .ref 127), (1, .int (nI t)), (2, .int (bN (tmP p X z k ((tmP p X z k a t f).2.1 + 1) t (tmP p X z k a t f).2.2).1))] dX11_isE_24 rfl (by decide) rfl ?_
          refine e_goto (t := 6) dX11_isE_25 (by decide) ?_
          have hlt := hb.2.2.2 hr1
          exact ih _ _ s21 (by omega) (sgn_in k13.1 (by decide)) hb.2.2.1 p21 ((fr.s (Or.inl rfl)).tr f21) (by rw [← he]; exact (smF_s (tm := fun a' f' => tmP p X z k a' t f') hr1 k13.1).symm)
  refine e_aload_n dX11_isE_0 rfl 0 rfl ?_
  refine e_iload_n dX11_isE_1 rfl 1 rfl ?_
  refine e_callVi dX11_isE_2 cvX11_156 rfl tt_127 rfl (hTm a0 t f0 σ0 μ hT0 hF0 hR0 ha0 ht hf0) (by omega) (Nat.le_refl _) (Nat.le_refl _) rfl (Nat.le_of_ble_eq_true rfl) (fun r2 s2 m2 q2 => ?_)
  obtain ⟨q2, p2, f2, g2⟩ := q2
  rw [g2]
  rw [q2]
  refine e_istore_n [(0, .ref 127), (1, .int (nI t)), (2, .int (bN (tmP p X z k a0 t f0).1))] dX11_isE_5 rfl (by decide) rfl ?_
  exact loop 99 a0 f0 s2 (by omega) ha0 hf0 p2 f2 rfl

theorem c11_all2 {p : Nat} (hp : gP p) {z : Nat} {X : Nat → Nat} (hX : ∀ i, i < z → X i < 128) (hz : z ≤ 100) : ∀ k, k ≤ 4 → TmR p z X k ∧ SmR p z X k
  | 0, _ => ⟨c11_T0 hX hz, c11_E hp hX hz (c11_T0 hX hz)⟩
  | k + 1, h => by
    obtain ⟨h1, h2⟩ := c11_all2 hp hX hz k (by omega)
    have h3 := c11_TS hp hX hz (show k < 4 by omega) h1 h2
    exact ⟨h3, c11_E hp hX hz h3⟩
