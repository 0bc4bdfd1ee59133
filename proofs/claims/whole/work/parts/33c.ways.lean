/-! the reference has the symbol in its last column -/
def rot (v : Nat) : Nat := v / 16 + v % 16 * 2 ^ 20
theorem rot_lt {v : Nat} (h : v < 2 ^ 24) : rot v < 2 ^ 24 := by unfold rot; omega
theorem rot_of {v : Nat} (h : v < 2 ^ 24) : rot v = nib v 1 + 16 * nib v 2 + 256 * nib v 3 + 4096 * nib v 4 + 65536 * nib v 5 + 1048576 * nib v 0 := by
  have hs := nib_sum h
  have h0 := nib_lt v 0
  have h1 := nib_lt v 1
  have h2 := nib_lt v 2
  have h3 := nib_lt v 3
  have h4 := nib_lt v 4
  have h5 := nib_lt v 5
  unfold rot
  generalize nib v 0 = n0 at *
  generalize nib v 1 = n1 at *
  generalize nib v 2 = n2 at *
  generalize nib v 3 = n3 at *
  generalize nib v 4 = n4 at *
  generalize nib v 5 = n5 at *
  omega
theorem rot_s {v : Nat} (h : v < 2 ^ 24) : ∀ c, c < 5 → nib (rot v) c = nib v (c + 1) := by
  intro c hc
  have e : c = 0 ∨ c = 1 ∨ c = 2 ∨ c = 3 ∨ c = 4 := by omega
  have g := nib_of (nib_lt v 1) (nib_lt v 2) (nib_lt v 3) (nib_lt v 4) (nib_lt v 5) (nib_lt v 0)
  dsimp only at g
  rw [← rot_of h] at g
  rcases e with rfl | rfl | rfl | rfl | rfl
  · exact g.2.1
  · exact g.2.2.1
  · exact g.2.2.2.1
  · exact g.2.2.2.2.1
  · exact g.2.2.2.2.2.1
theorem rot_5 {v : Nat} (h : v < 2 ^ 24) : nib (rot v) 5 = nib v 0 := by
  have g := nib_of (nib_lt v 1) (nib_lt v 2) (nib_lt v 3) (nib_lt v 4) (nib_lt v 5) (nib_lt v 0)
  dsimp only at g
  rw [← rot_of h] at g
  exact g.2.2.2.2.2.2
theorem lt6s {q : Nat} (h : q < 6) : q < 5 ∨ q = 5 := by omega
theorem rot_xor {a b : Nat} (ha : a < 2 ^ 24) (hb : b < 2 ^ 24) : rot (a ^^^ b) = rot a ^^^ rot b :=
  nib_ext6 (rot_lt (xor_lt24 ha hb)) (xor_lt24 (rot_lt ha) (rot_lt hb)) fun q hq => by
    rcases lt6s hq with h | rfl
    · rw [rot_s (xor_lt24 ha hb) q h, nib_xor, nib_xor, rot_s ha q h, rot_s hb q h]
    · rw [rot_5 (xor_lt24 ha hb), nib_xor, nib_xor, rot_5 ha, rot_5 hb]
theorem rot_gsc {p : Nat} (h : gP p) {r c : Nat} (hr : r < 2 ^ 24) (hc : c < 16) : rot (gsc p r c) = gsc p (rot r) c :=
  nib_ext6 (rot_lt (gsc_lt h hc)) (gsc_lt h hc) fun q hq => by
    rcases lt6s hq with h2 | rfl
    · rw [rot_s (gsc_lt h hc) q h2, gsc_nib h hc (by omega), gsc_nib h hc (by omega), rot_s hr q h2]
    · rw [rot_5 (gsc_lt h hc), gsc_nib h hc (by omega), gsc_nib h hc (by omega), rot_5 hr]
theorem rot_0 {v : Nat} (h : v < 2 ^ 24) : rot v = 0 ↔ v = 0 := by unfold rot; omega
theorem sp_rot {p : Nat} (h : gP p) : ∀ {W : List Nat} {v : Nat}, Vs W → v < 2 ^ 24 → (Sp p (W.map rot) (rot v) ↔ Sp p W v)
  | [], v, _, hv => rot_0 hv
  | w :: W, v, hW, hv => by
    have hw := hW w List.mem_cons_self
    constructor
    · rintro ⟨c, hc, hs⟩
      refine ⟨c, hc, (sp_rot h hW.tl (xor_lt24 hv (gsc_lt h hc))).mp ?_⟩
      rw [rot_xor hv (gsc_lt h hc), rot_gsc h hw hc]
      exact hs
    · rintro ⟨c, hc, hs⟩
      refine ⟨c, hc, ?_⟩
      have := (sp_rot h hW.tl (xor_lt24 hv (gsc_lt h hc))).mpr hs
      rw [rot_xor hv (gsc_lt h hc), rot_gsc h hw hc] at this
      exact this
theorem grk_rot {p : Nat} (h : gP p) : ∀ {W : List Nat}, Vs W → grk p (W.map rot) = grk p W
  | [], _ => rfl
  | w :: W, hW => by
    have ih := grk_rot h hW.tl
    have hw := hW w List.mem_cons_self
    show grk p (rot w :: W.map rot) = _
    by_cases hs : Sp p W w
    · rw [grk_told hs, grk_told ((sp_rot h hW.tl hw).mpr hs), ih]
    · rw [grk_new hs, grk_new (fun q => hs ((sp_rot h hW.tl hw).mp q)), ih]
theorem lu_map {F : Nat → Nat} {g : Nat → Nat} : ∀ m i, lu (fun k => g (F k)) m i = (lu F m i).map g
  | 0, _ => rfl
  | m + 1, i => by
    show g (F i) :: lu (fun k => g (F k)) m (i + 1) = g (F i) :: (lu F m (i + 1)).map g
    rw [lu_map m (i + 1)]
/-- behind the elimination: a row with no data in it is told only if it is 0, when all that is left is 0 -/
theorem Eli_cons {p : Nat} (h : gP p) {L : Nat} {V0 V : Nat → Nat} {k v : Nat} (hE : Eli p L V0 V 5 k) (hz : ∀ j, k ≤ j → j < L → nib (V j) 5 = 0) (hv : v < 2 ^ 24) (hv0 : ∀ c, c < 5 → nib v c = 0) (hs : Sp p (lu V0 L 0) v) : v = 0 := by
  obtain ⟨e1, e2, e3, e4, e5, piv, e6⟩ := hE
  have hs2 := (e4 v).mp hs
  have hr : ∀ m i, i + m = L → Sp p (lu V m i) v → v = 0 := by
    intro m
    induction m with
    | zero => intro i hi h9; exact h9
    | succ m ih =>
      intro i hi h9
      obtain ⟨c, hc, h9⟩ := (show ∃ c, c < 16 ∧ Sp p (lu V m (i + 1)) (v ^^^ gsc p (V i) c) from h9)
      by_cases hik : i < k
      · obtain ⟨q1, q2, q3⟩ := e6 i hik
        have hcol := sp_col h (q := piv i) (by omega) (fun w hw => by
          obtain ⟨j, g1, g2, rfl⟩ := lu_mem.mp hw
          exact q3 j (by omega) (by omega)) h9
        rw [nib_xor, hv0 _ q1, gsc_nib h hc (by omega), Nat.zero_xor] at hcol
        have hc0 : c = 0 := by
          cases Nat.eq_zero_or_pos c with
          | inl z => exact z
          | inr z =>
            exfalso
            have hi := ginv_ok h c hc
            have h2 : gmul p (gmul p (nib (V i) (piv i)) c) (ginv p c) = nib (V i) (piv i) := by rw [gmul_assoc h _ (nib_lt _ _) _ hc _ hi.1, hi.2.1 (by omega), gmul_one h _ (nib_lt _ _)]
            rw [hcol, gmul_comm h _ (by decide) _ hi.1, gmul_zero h _ hi.1] at h2
            exact q2 h2.symm
        rw [hc0, gsc_0 h, Nat.xor_zero] at h9
        exact ih (i + 1) (by omega) h9
      · have hvi : V i = 0 := nib_0_all (e1 i (by omega)) (fun j hj => by
          by_cases e : j = 5
          · rw [e]; exact hz i (by omega) (by omega)
          · exact e5 i (by omega) (by omega) j (by omega))
        rw [hvi, gsc_of0 h hc, Nat.xor_zero] at h9
        exact ih (i + 1) (by omega) h9
  exact hr L 0 (by omega) hs2
theorem nib_up : ∀ q, q < 6 → nib 1048576 q = if q = 5 then 1 else 0 := by decide +kernel
theorem rot1 : rot 1 = 1048576 := by decide
/-- a line left with a symbol -/
theorem Eli_bad {p : Nat} (h : gP p) {L : Nat} {V0 V : Nat → Nat} {k j : Nat} (hE : Eli p L V0 V 5 k) (hj : k ≤ j) (hjL : j < L) (hb : nib (V j) 5 ≠ 0) : Sp p (lu V0 L 0) 1048576 := by
  obtain ⟨e1, e2, e3, e4, e5, -⟩ := hE
  refine (e4 _).mpr ?_
  have h1 := sp_mem h (Vs_lu e1 (m := L) (i := 0) (by omega)) (lu_mem.mpr ⟨j, by omega, by omega, rfl⟩ : V j ∈ lu V L 0)
  have hi := ginv_ok h (nib (V j) 5) (nib_lt _ _)
  have h2 := sp_smul h hi.1 h1
  have e : gsc p (V j) (ginv p (nib (V j) 5)) = 1048576 := nib_ext6 (gsc_lt h hi.1) (by decide) (fun q hq => by
    rw [gsc_nib h hi.1 hq, nib_up q hq]
    by_cases z : q = 5
    · rw [z, if_pos rfl, hi.2.1 hb]
    · rw [if_neg z, e5 j hj hjL q (by omega), gmul_comm h _ (by decide) _ hi.1, gmul_zero h _ hi.1])
  rw [e] at h2
  exact h2

set_option maxHeartbeats 1000000 in
set_option maxRecDepth 100000 in
theorem c11_has {S : ns_T} (hV : VS S) {F : Nat → Nat} {L : Nat} (hL : L < 12) {j s : Nat} (hj : j < S 0 0) (hs : s < 16) {σ : ex_S} {μ : ex_L}(hR : NR σ S) (hM : MV σ (fun i => rot (F i)) L) : Cv 3 yX11_has cX11_has 4 none [.ref 127, .int (nI j), .int (nI s)] TT σ μ (fun σ' μ' => MV σ' (fun i => rot (if i = L then cw (S 5 j) s (S 0 1) else F i)) (L + 1) ∧ FrM σ σ' ∧ μ' = μ) := by
  refine Cl_of (by decide +kernel) (Nat.le_of_ble_eq_true rfl) ?_
  show Ev RX11 cX11_has 4 3 0 0 "has" none ev_ext _ _ 0 0 0 [(0, .ref 127), (1, .int (nI j)), (2, .int (nI s))] [] TT σ μ
  have hn := hV.1
  have hd := hV.2.1
  have hfj := (hV.2.2.2.2.2.2.1 j hj).2.2.2.1
  have hcw : cw (S 5 j) s (S 0 1) < 2 ^ 24 := cw_lt hd hs
  have loop : ∀ (m d : Nat) (σ1 : ex_S), d + m = 5 → S 0 1 ≤ d → FrM σ σ1 → σ1 127 35 = nI (L + 1) → (∀ i, i < L → ∀ c, c < 6 → σ1 150 (6 * i + c) = nI (nib (rot (F i)) c)) → (∀ c, c < 6 → σ1 150 (6 * L + c) = nI (if S 0 1 ≤ c ∧ c < d then 0 else nib (S 5 j) c)) → Ev RX11 cX11_has 4 3 0 0 "has" none ev_ext TT.length (fun v9 T9 σ9 μ9 => T9 = TT ∧ v9 = none ∧ (fun σ' μ' => MV σ' (fun i => rot (if i = L then cw (S 5 j) s (S 0 1) else F i)) (L + 1) ∧ FrM σ σ' ∧ μ' = μ) σ9 μ9) 0 0 10 [(0, .ref 127), (1, .int (nI j)), (2, .int (nI s)), (3, .int (nI d))] [] TT σ1 μ := by
    intro m
    induction m with
    | zero =>
      intro d σ1 hdm hdd f1 f2 f3 f4
      obtain rfl : d = 5 := by omega
      refine e_iload_n dX11_has_10 rfl 3 rfl ?_
      refine e_iconst (v := 5) dX11_has_11 rfl ?_
      refine e_icmp_ge (t := 39) dX11_has_12 (by decide) (fun h12 => ?_) (fun h12 => ?_)
      · skip
        refine e_aload_n dX11_has_39 rfl 0 rfl ?_
        refine e_getR dX11_has_40 lkX11_78 tt_127 rfl ?_
        refine e_bipush (v := 6) dX11_has_43 rfl ?_
        refine e_aload_n dX11_has_45 rfl 0 rfl ?_
        refine e_getI dX11_has_46 lkX11_202 tt_127 rfl ?_
        rw [f2, show (6 : Int32) = nI 6 from rfl]
        refine e_imul dX11_has_49 ?_
        rw [i_mul]
        refine e_iconst (v := 1) dX11_has_50 rfl ?_
        refine e_isub dX11_has_51 ?_
        rw [show (1 : Int32) = nI 1 from rfl, i_sub (by omega)]
        refine e_iload_n dX11_has_52 rfl 2 rfl ?_
        refine e_iast dX11_has_53 tt_150 (vp_in_nI (by omega) (by decide)) ?_
        refine e_retv dX11_has_54 (Nat.le_refl _) (Nat.le_refl _) ?_
        rw [i_cl (show 6 * (L + 1) - 1 < 2 ^ 31 by omega)]
        refine ⟨⟨by rw [sup_obj (by decide)]; exact f2, fun i hi c hc => ?_⟩, ⟨fun i h1 h2 => by rw [sup_obj h2]; exact f1.1 i h1 h2, fun k hk => by rw [sup_obj (by decide)]; exact f1.2 k hk⟩, rfl⟩
        show sup σ1 150 (6 * (L + 1) - 1) (nI s) 150 (6 * i + c) = nI (nib (rot (if i = L then cw (S 5 j) s (S 0 1) else F i)) c)
        by_cases e : i = L
        · subst e
          rw [if_pos rfl]
          rcases lt6s hc with h5 | rfl
          · rw [sup_idx (by omega), f4 c hc, rot_s hcw c h5, cw_s hs]
            by_cases q : c < S 0 1
            · rw [if_neg (by omega), if_pos q]
            · rw [if_pos (by omega), if_neg q]
          · rw [show 6 * (i + 1) - 1 = 6 * i + 5 by omega, sup_same, rot_5 hcw, cw_0 hs]
        · rw [if_neg e, sup_idx (by omega)]
          exact f3 i (by omega) c hc
      · skip
        exact absurd (show nI 5 ≤ nI 5 from (i_le (by omega) (by omega)).mpr (by omega)) h12
    | succ m ih =>
      intro d σ1 hdm hdd f1 f2 f3 f4
      refine e_iload_n dX11_has_10 rfl 3 rfl ?_
      refine e_iconst (v := 5) dX11_has_11 rfl ?_
      refine e_icmp_ge (t := 39) dX11_has_12 (by decide) (fun h12 => ?_) (fun h12 => ?_)
      · skip
        exact absurd ((i_le (by omega) (by omega)).mp (show nI 5 ≤ nI d from h12)) (by omega)
      · skip
        refine e_aload_n dX11_has_15 rfl 0 rfl ?_
        refine e_getR dX11_has_16 lkX11_78 tt_127 rfl ?_
        refine e_bipush (v := 6) dX11_has_19 rfl ?_
        refine e_aload_n dX11_has_21 rfl 0 rfl ?_
        refine e_getI dX11_has_22 lkX11_202 tt_127 rfl ?_
        rw [f2, show (6 : Int32) = nI 6 from rfl]
        refine e_imul dX11_has_25 ?_
        rw [i_mul]
        refine e_bipush (v := 6) dX11_has_26 rfl ?_
        refine e_isub dX11_has_28 ?_
        refine e_iload_n dX11_has_29 rfl 3 rfl ?_
        refine e_iadd dX11_has_30 ?_
        rw [show (6 : Int32) = nI 6 from rfl, i_sub (by omega), i_add]
        refine e_iconst (v := 0) dX11_has_31 rfl ?_
        refine e_iast dX11_has_32 tt_150 (vp_in_nI (by omega) (by decide)) ?_
        refine e_iinc (nI (d + 1)) [(0, .ref 127), (1, .int (nI j)), (2, .int (nI s)), (3, .int (nI (d + 1)))] dX11_has_33 3 rfl (nI_1 d) (by decide) rfl ?_
        refine e_goto (t := 10) dX11_has_36 (by decide) ?_
        rw [i_cl (show 6 * (L + 1) - 6 + d < 2 ^ 31 by omega)]
        refine ih (d + 1) _ (by omega) (by omega) ⟨fun i h1 h2 => by rw [sup_obj h2]; exact f1.1 i h1 h2, fun k hk => by rw [sup_obj (by decide)]; exact f1.2 k hk⟩ (by rw [sup_obj (by decide)]; exact f2) (fun i hi c hc => by rw [sup_idx (by omega)]; exact f3 i hi c hc) (fun c hc => ?_)
        by_cases e : c = d
        · rw [e, show 6 * L + d = 6 * (L + 1) - 6 + d by omega, sup_same, if_pos (by omega)]
          rfl
        · rw [sup_idx (by omega), f4 c hc]
          by_cases q : S 0 1 ≤ c ∧ c < d
          · rw [if_pos q, if_pos (by omega)]
          · rw [if_neg q, if_neg (by omega)]
  refine e_aload_n dX11_has_0 rfl 0 rfl ?_
  refine e_iload_n dX11_has_1 rfl 1 rfl ?_
  refine e_callVv dX11_has_2 cvX11_209 rfl tt_127 rfl (c11_takes hV (V := fun i => rot (F i)) hL hR hM hj) (Nat.le_of_ble_eq_true rfl) (Nat.le_refl _) (Nat.le_refl _) rfl (Nat.le_of_ble_eq_true rfl) (fun s2 m2 q2 => ?_)
  obtain ⟨m2, f2, g2⟩ := q2
  rw [g2]
  refine e_aload_n dX11_has_5 rfl 0 rfl ?_
  refine e_getI dX11_has_6 lkX11_134 tt_127 rfl ?_
  rw [f2.2 6 (by decide), hR.2.1]
  refine e_istore_n [(0, .ref 127), (1, .int (nI j)), (2, .int (nI s)), (3, .int (nI (S 0 1)))] dX11_has_9 rfl (by decide) rfl ?_
  refine loop (5 - S 0 1) (S 0 1) s2 (by omega) (Nat.le_refl _) f2 m2.1 (fun i hi c hc => ?_) (fun c hc => ?_)
  · rw [m2.2 i (by omega) c hc]
    show nI (nib (if i = L then S 5 j else rot (F i)) c) = _
    rw [if_neg (by omega)]
  · rw [m2.2 L (by omega) c hc]
    show nI (nib (if L = L then S 5 j else rot (F L)) c) = _
    rw [if_pos rfl, if_neg (by omega)]

theorem MV.cg {σ : ex_S} {V V' : Nat → Nat} {L : Nat} (h : MV σ V L) (e : ∀ j, j < L → V j = V' j) : MV σ V' L := ⟨h.1, fun j hj c hc => by rw [← e j hj]; exact h.2 j hj c hc⟩
theorem PH.fm {σ σ' : ex_S} {S : ns_T} {f c t : Nat} (h : PH σ f c S t) (hf : FrM σ σ') (h1 : f ≠ 35) (h2 : c ≠ 127) (h3 : c ≠ 150) (h4 : c + 1 ≠ 127) (h5 : c + 1 ≠ 150) : PH σ' f c S t := h.to (hf.2 f h1) (hf.1 c h2 h3) (hf.1 (c + 1) h4 h5)

set_option maxRecDepth 100000 in
theorem c11_sees {S : ns_T} (hV : VS S) (hU : PSV S) {σ : ex_S} {μ : ex_L}(hR : NR σ S) (hG : PH σ 22 142 S 10) : Cv 4 yX11_sees cX11_sees 2 none [.ref 127] TT σ μ (fun σ' μ' => MV σ' (fun i => rot (srw S i)) (S 10 0) ∧ FrM σ σ' ∧ μ' = μ) := by
  refine Cl_of (by decide +kernel) (Nat.le_of_ble_eq_true rfl) ?_
  show Ev RX11 cX11_sees 2 4 0 0 "sees" none ev_ext _ _ 0 0 0 [(0, .ref 127)] [] TT σ μ
  have hn := hV.1
  have hz := hU.1
  have loop : ∀ (m i : Nat) (σ1 : ex_S), i + m = S 10 0 → FrM σ σ1 → MV σ1 (fun k => rot (srw S k)) i → Ev RX11 cX11_sees 2 4 0 0 "sees" none ev_ext TT.length (fun v9 T9 σ9 μ9 => T9 = TT ∧ v9 = none ∧ (fun σ' μ' => MV σ' (fun i => rot (srw S i)) (S 10 0) ∧ FrM σ σ' ∧ μ' = μ) σ9 μ9) 0 0 7 [(0, .ref 127), (1, .int (nI i))] [] TT σ1 μ := by
    intro m
    induction m with
    | zero =>
      intro i σ1 hi f1 m1
      obtain rfl : i = S 10 0 := by omega
      refine e_iload_n dX11_sees_7 rfl 1 rfl ?_
      refine e_aload_n dX11_sees_8 rfl 0 rfl ?_
      refine e_getI dX11_sees_9 lkX11_245 tt_127 rfl ?_
      rw [f1.2 22 (by decide), hG.1]
      refine e_icmp_ge (t := 37) dX11_sees_12 (by decide) (fun h12 => ?_) (fun h12 => ?_)
      · skip
        refine e_retv dX11_sees_37 (Nat.le_refl _) (Nat.le_refl _) ?_
        exact ⟨m1, f1, rfl⟩
      · skip
        exact absurd (show nI (S 10 0) ≤ nI (S 10 0) from (i_le (by omega) (by omega)).mpr (by omega)) h12
    | succ m ih =>
      intro i σ1 hi f1 m1
      obtain ⟨g1, g2⟩ := hG.2 i (by omega)
      have g1 : σ 142 i = nI (S 11 i) := g1
      have g2 : σ 143 i = nI (S 12 i) := g2
      obtain ⟨w1, w2⟩ := hU.2.2.2.1 i (by omega)
      refine e_iload_n dX11_sees_7 rfl 1 rfl ?_
      refine e_aload_n dX11_sees_8 rfl 0 rfl ?_
      refine e_getI dX11_sees_9 lkX11_245 tt_127 rfl ?_
      rw [f1.2 22 (by decide), hG.1]
      refine e_icmp_ge (t := 37) dX11_sees_12 (by decide) (fun h12 => ?_) (fun h12 => ?_)
      · skip
        exact absurd ((i_le (by omega) (by omega)).mp (show nI (S 10 0) ≤ nI i from h12)) (by omega)
      · skip
        refine e_aload_n dX11_sees_15 rfl 0 rfl ?_
        refine e_aload_n dX11_sees_16 rfl 0 rfl ?_
        refine e_getR dX11_sees_17 lkX11_54 tt_127 rfl ?_
        refine e_iload_n dX11_sees_20 rfl 1 rfl ?_
        refine e_iald dX11_sees_21 tt_142 (vp_in_nI (by omega) (by decide)) ?_
        rw [f1.1 142 (by decide) (by decide), i_cl (show i < 2 ^ 31 by omega), g1]
        refine e_aload_n dX11_sees_22 rfl 0 rfl ?_
        refine e_getR dX11_sees_23 lkX11_57 tt_127 rfl ?_
        refine e_iload_n dX11_sees_26 rfl 1 rfl ?_
        refine e_iald dX11_sees_27 tt_143 (vp_in_nI (by omega) (by decide)) ?_
        rw [f1.1 143 (by decide) (by decide), i_cl (show i < 2 ^ 31 by omega), g2]
        refine e_callVv dX11_sees_28 cvX11_248 rfl tt_127 rfl (c11_has hV (F := srw S) (L := i) (by omega) w1 w2 (hR.to f1) m1) (Nat.le_of_ble_eq_true rfl) (Nat.le_refl _) (Nat.le_refl _) rfl (Nat.le_of_ble_eq_true rfl) (fun s28 m28 q28 => ?_)
        obtain ⟨m2, f2, g9⟩ := q28
        rw [g9]
        refine e_iinc (nI (i + 1)) [(0, .ref 127), (1, .int (nI (i + 1)))] dX11_sees_31 1 rfl (nI_1 i) (by decide) rfl ?_
        refine e_goto (t := 7) dX11_sees_34 (by decide) ?_
        refine ih (i + 1) s28 (by omega) (f1.tr f2) (m2.cg (fun k _ => ?_))
        by_cases e : k = i
        · show rot (if k = i then cw (S 5 (S 11 i)) (S 12 i) (S 0 1) else srw S k) = _
          rw [if_pos e, e]
          rfl
        · show rot (if k = i then cw (S 5 (S 11 i)) (S 12 i) (S 0 1) else srw S k) = _
          rw [if_neg e]
  refine e_aload_n dX11_sees_0 rfl 0 rfl ?_
  refine e_iconst (v := 0) dX11_sees_1 rfl ?_
  refine e_putI dX11_sees_2 lkX11_202' tt_127 rfl rfl rfl ?_
  refine e_iconst (v := 0) dX11_sees_5 rfl ?_
  refine e_istore_n [(0, .ref 127), (1, .int (nI 0))] dX11_sees_6 rfl (by decide) rfl ?_
  exact loop (S 10 0) 0 _ (by omega) ⟨fun i h1 _ => sup_obj h1, fun k hk => sup_idx hk⟩ ⟨by rw [sup_same]; rfl, fun j hj => absurd hj (Nat.not_lt_zero j)⟩

set_option maxRecDepth 100000 in
theorem c11_solves {p : Nat} (hp : gP p) {F : Nat → Nat} {L : Nat} (hL : L ≤ 12) (hF24 : ∀ j, j < L → F j < 2 ^ 24) {σ : ex_S} {μ : ex_L}(hF : FR σ p) (hM : MV σ (fun i => rot (F i)) L) : Ci 6 yX11_solves cX11_solves 3 (some .int) [.ref 127] TT σ μ (fun z' σ' μ' => ((Cons p (lu F L 0) ∧ z' = nI (grk p (lu F L 0))) ∨ (¬ Cons p (lu F L 0) ∧ z' = -1)) ∧ FrM σ σ' ∧ μ' = μ) := by
  refine Cl_of (by decide +kernel) (Nat.le_of_ble_eq_true rfl) ?_
  show Ev RX11 cX11_solves 3 6 0 0 "solves" (some .int) ev_ext _ _ 0 0 0 [(0, .ref 127)] [] TT σ μ
  have hVs : Vs (lu F L 0) := Vs_lu hF24 (by omega)
  have hr24 : ∀ j, j < L → rot (F j) < 2 ^ 24 := fun j hj => rot_lt (hF24 j hj)
  have hcons : Cons p (lu F L 0) ↔ ¬ Sp p (lu (fun i => rot (F i)) L 0) 1048576 := by
    unfold Cons
    rw [show lu (fun i => rot (F i)) L 0 = (lu F L 0).map rot from lu_map (F := F) (g := rot) L 0, ← rot1, sp_rot hp hVs (show 1 < 2 ^ 24 by decide)]
  have loop : ∀ (V' : Nat → Nat) (k : Nat) (σ1 : ex_S), MV σ1 V' L → Eli p L (fun i => rot (F i)) V' 5 k → FrM σ σ1 → ∀ (m r : Nat), r + m = L → k ≤ r → (∀ j, k ≤ j → j < r → nib (V' j) 5 = 0) → Ev RX11 cX11_solves 3 6 0 0 "solves" (some .int) ev_ext TT.length (fun v9 T9 σ9 μ9 => T9 = TT ∧ ∃ z9, v9 = some (.int z9) ∧ (fun z' σ' μ' => ((Cons p (lu F L 0) ∧ z' = nI (grk p (lu F L 0))) ∨ (¬ Cons p (lu F L 0) ∧ z' = -1)) ∧ FrM σ σ' ∧ μ' = μ) z9 σ9 μ9) 0 0 7 [(0, .ref 127), (1, .int (nI k)), (2, .int (nI r))] [] TT σ1 μ := by
    intro V' k σ1 m1 hE f1 m
    induction m with
    | zero =>
      intro r hr hkr hz
      obtain rfl : r = L := by omega
      refine e_iload_n dX11_solves_7 rfl 2 rfl ?_
      refine e_aload_n dX11_solves_8 rfl 0 rfl ?_
      refine e_getI dX11_solves_9 lkX11_202 tt_127 rfl ?_
      rw [m1.1]
      refine e_icmp_ge (t := 37) dX11_solves_12 (by decide) (fun h12 => ?_) (fun h12 => ?_)
      · skip
        refine e_iload_n dX11_solves_37 rfl 1 rfl ?_
        refine e_reti dX11_solves_38 ev_nwi (Nat.le_refl _) (Nat.le_refl _) ?_
        refine ⟨Or.inl ⟨hcons.mpr (fun q => ?_), ?_⟩, f1, rfl⟩
        · have h9 := Eli_cons hp hE hz (by decide) (fun c hc => by rw [nib_up c (by omega), if_neg (by omega)]) q
          exact absurd h9 (by decide)
        · have h9 := Eli_rank hp hr24 hE hz
          rw [show lu (fun i => rot (F i)) r 0 = (lu F r 0).map rot from lu_map (F := F) (g := rot) r 0, grk_rot hp hVs] at h9
          exact congrArg nI h9.symm
      · skip
        exact absurd (show nI r ≤ nI r from (i_le (by omega) (by omega)).mpr (by omega)) h12
    | succ m ih =>
      intro r hr hkr hz
      have hnb := nib_lt (V' r) 5
      refine e_iload_n dX11_solves_7 rfl 2 rfl ?_
      refine e_aload_n dX11_solves_8 rfl 0 rfl ?_
      refine e_getI dX11_solves_9 lkX11_202 tt_127 rfl ?_
      rw [m1.1]
      refine e_icmp_ge (t := 37) dX11_solves_12 (by decide) (fun h12 => ?_) (fun h12 => ?_)
      · skip
        exact absurd ((i_le (by omega) (by omega)).mp (show nI L ≤ nI r from h12)) (by omega)
      · skip
        refine e_aload_n dX11_solves_15 rfl 0 rfl ?_
        refine e_getR dX11_solves_16 lkX11_78 tt_127 rfl ?_
        refine e_bipush (v := 6) dX11_solves_19 rfl ?_
        refine e_iload_n dX11_solves_21 rfl 2 rfl ?_
        refine e_imul dX11_solves_22 ?_
        refine e_iconst (v := 5) dX11_solves_23 rfl ?_
        refine e_iadd dX11_solves_24 ?_
        rw [show (6 : Int32) * nI r + 5 = nI (6 * r + 5) from i_lin6 r 5]
        refine e_iald dX11_solves_25 tt_150 (vp_in_nI (by omega) (by decide)) ?_
        rw [i_cl (show 6 * r + 5 < 2 ^ 31 by omega), m1.2 r (by omega) 5 (by decide)]
        refine e_if_eq (t := 31) dX11_solves_26 (by decide) (fun h26 => ?_) (fun h26 => ?_)
        · skip
          have hb : nib (V' r) 5 = 0 := (i_eq (b := 0) (by omega) (by decide)).mp h26
          refine e_iinc (nI (r + 1)) [(0, .ref 127), (1, .int (nI k)), (2, .int (nI (r + 1)))] dX11_solves_31 2 rfl (nI_1 r) (by decide) rfl ?_
          refine e_goto (t := 7) dX11_solves_34 (by decide) ?_
          exact ih (r + 1) (by omega) (by omega) (fun j h1 h2 => by
            by_cases e : j = r
            · rw [e]; exact hb
            · exact hz j h1 (by omega))
        · skip
          have hb : nib (V' r) 5 ≠ 0 := fun q => h26 (by rw [q]; rfl)
          refine e_iconst (v := (-1)) dX11_solves_29 rfl ?_
          refine e_reti dX11_solves_30 ev_nwi (Nat.le_refl _) (Nat.le_refl _) ?_
          exact ⟨Or.inr ⟨fun q => hcons.mp q (Eli_bad hp hE hkr (by omega) hb), rfl⟩, f1, rfl⟩
  refine e_aload_n dX11_solves_0 rfl 0 rfl ?_
  refine e_callVi dX11_solves_1 cvX11_212 rfl tt_127 rfl (c11_ranks hp (V := fun i => rot (F i)) hL hr24 hF hM) (Nat.le_of_ble_eq_true rfl) (Nat.le_refl _) (Nat.le_refl _) rfl (Nat.le_of_ble_eq_true rfl) (fun r1 s1 m1 q1 => ?_)
  obtain ⟨V', k, q1, m1, hE, f1, g1⟩ := q1
  rw [g1]
  rw [q1]
  refine e_istore_n [(0, .ref 127), (1, .int (nI k))] dX11_solves_4 rfl (by decide) rfl ?_
  refine e_iload_n dX11_solves_5 rfl 1 rfl ?_
  refine e_istore_n [(0, .ref 127), (1, .int (nI k)), (2, .int (nI k))] dX11_solves_6 rfl (by decide) rfl ?_
  exact loop V' k s1 m1 hE ⟨fun i _ h2 => f1 i h2, fun q _ => by rw [f1 127 (by decide)]⟩ (L - k) k (by have := hE.2.1; omega) (Nat.le_refl _) (fun j h1 h2 => absurd h2 (by omega))

set_option maxHeartbeats 2000000 in
set_option maxRecDepth 100000 in
theorem c11_least {p : Nat} (hp : gP p) {S : ns_T} (hV : VS S) (hU : PSV S) (hc : Cons p (Wl S)) {σ : ex_S} {μ : ex_L}(hF : FR σ p) (hR : NR σ S) (hG : PH σ 22 142 S 10) : Cg 7 yX11_least cX11_least 7 (some .long) [.ref 127] TT σ μ (fun z' σ' μ' => z' = lN (ylv p (nR p S) (S 0 1)) ∧ FrM σ σ' ∧ μ' = μ) := by
  refine Cl_of (by decide +kernel) (Nat.le_of_ble_eq_true rfl) ?_
  show Ev RX11 cX11_least 7 7 0 0 "least" (some .long) ev_ext _ _ 0 0 0 [(0, .ref 127)] [] TT σ μ
  have hn := hV.1
  have hd := hV.2.1
  have hz := hU.1
  have hI := nR_I hp hV hU
  have hyd : ∀ d, d < 5 → nib (yv p (nR p S) 5) (d + 1) = ysm p (nR p S) d := fun d h => yv_d hp _ h
  have outer : ∀ (m d : Nat) (σ1 : ex_S), d + m = S 0 1 → FrM σ σ1 → Ev RX11 cX11_least 7 7 0 0 "least" (some .long) ev_ext TT.length (fun v9 T9 σ9 μ9 => T9 = TT ∧ ∃ z9, v9 = some (.long z9) ∧ (fun z' σ' μ' => z' = lN (ylv p (nR p S) (S 0 1)) ∧ FrM σ σ' ∧ μ' = μ) z9 σ9 μ9) 0 0 4 [(0, .ref 127), (1, .long (lN (ylv p (nR p S) d))), (3, .int (nI d))] [] TT σ1 μ := by
    intro m
    induction m with
    | zero =>
      intro d σ1 hdm f1
      obtain rfl : d = S 0 1 := by omega
      refine e_iload_n dX11_least_4 rfl 2 rfl ?_
      refine e_aload_n dX11_least_5 rfl 0 rfl ?_
      refine e_getI dX11_least_6 lkX11_134 tt_127 rfl ?_
      rw [(hR.to f1).2.1]
      refine e_icmp_ge (t := 132) dX11_least_9 (by decide) (fun h9 => ?_) (fun h9 => ?_)
      · skip
        refine e_lload_n dX11_least_132 rfl 1 rfl ?_
        refine e_retl dX11_least_133 (Nat.le_refl _) (Nat.le_refl _) ?_
        exact ⟨rfl, f1, rfl⟩
      · skip
        exact absurd (show nI (S 0 1) ≤ nI (S 0 1) from (i_le (by omega) (by omega)).mpr (by omega)) h9
    | succ m ih =>
      intro d σ1 hdm f1
      have hs := ysm_lt hp (nR p S) d
      have hl := ylv_lt hp (nR p S) d
      have hl2 : 2 ^ (4 * d) ≤ 2 ^ 16 := Nat.pow_le_pow_right (by decide) (by omega)
      have hdd : d < S 0 1 := by omega
      have mid : ∀ (m2 n : Nat) (σ2 : ex_S) (fo : Int32), n + m2 = 16 → FrM σ σ2 → ((fo = -1 ∧ n ≤ (nib (yv p (nR p S) 5) (d + 1))) ∨ (fo = nI (nib (yv p (nR p S) 5) (d + 1)))) → Ev RX11 cX11_least 7 7 0 0 "least" (some .long) ev_ext TT.length (fun v9 T9 σ9 μ9 => T9 = TT ∧ ∃ z9, v9 = some (.long z9) ∧ (fun z' σ' μ' => z' = lN (ylv p (nR p S) (S 0 1)) ∧ FrM σ σ' ∧ μ' = μ) z9 σ9 μ9) 0 0 18 [(0, .ref 127), (1, .long (lN (ylv p (nR p S) d))), (3, .int (nI d)), (4, .int fo), (5, .int (nI n))] [] TT σ2 μ := by
        intro m2
        induction m2 with
        | zero =>
          intro n σ2 fo hn2 f2 hfo
          obtain rfl : n = 16 := by omega
          have hfo2 : fo = nI (nib (yv p (nR p S) 5) (d + 1)) := hfo.resolve_left (fun q => by rw [hyd d (by omega)] at q; omega)
          subst hfo2
          refine e_iload dX11_least_18 4 rfl ?_
          refine e_bipush (v := 16) dX11_least_20 rfl ?_
          refine e_icmp_ge (t := 106) dX11_least_22 (by decide) (fun h22 => ?_) (fun h22 => ?_)
          · skip
            refine e_iload dX11_least_106 3 rfl ?_
            refine e_iconst (v := (-1)) dX11_least_108 rfl ?_
            skip
            refine e_icmp_ne (t := 116) dX11_least_109 (by decide) (fun h109 => ?_) (fun h109 => ?_)
            · skip
              refine e_ldc2 dX11_least_116 kcX11_262 ?_
              refine e_lload_n dX11_least_119 rfl 1 rfl ?_
              refine e_lmul dX11_least_120 ?_
              refine e_iload dX11_least_121 3 rfl ?_
              refine e_i2l dX11_least_123 ?_
              refine e_ladd dX11_least_124 ?_
              rw [nI_l (show nib (yv p (nR p S) 5) (d + 1) < 2 ^ 31 from Nat.lt_trans (nib_lt _ _) (by decide)), show (16 : Int64) = lN 16 from rfl, lN_mul, lN_add, show 16 * ylv p (nR p S) d + nib (yv p (nR p S) 5) (d + 1) = ylv p (nR p S) (d + 1) from by rw [hyd d (by omega)]; rfl]
              refine e_lstore_n [(0, .ref 127), (1, .long (lN (ylv p (nR p S) (d + 1)))), (3, .int (nI d)), (4, .int (nI (nib (yv p (nR p S) 5) (d + 1)))), (5, .int (nI 16))] dX11_least_125 rfl (by decide) rfl ?_
              refine e_iinc (nI (d + 1)) [(0, .ref 127), (1, .long (lN (ylv p (nR p S) (d + 1)))), (3, .int (nI (d + 1))), (4, .int (nI (nib (yv p (nR p S) 5) (d + 1)))), (5, .int (nI 16))] dX11_least_126 2 rfl (nI_1 d) (by decide) rfl ?_
              refine e_goto (t := 4) dX11_least_129 (by decide) ?_
              refine e_lv [(0, .ref 127), (1, .long (lN (ylv p (nR p S) (d + 1)))), (3, .int (nI (d + 1)))] (List.forall_mem_cons.mpr ⟨List.mem_of_getElem? (i := 0) rfl, List.forall_mem_cons.mpr ⟨List.mem_of_getElem? (i := 1) rfl, List.forall_mem_cons.mpr ⟨List.mem_of_getElem? (i := 2) rfl, fun _ h => absurd h List.not_mem_nil⟩⟩⟩) ?_
              exact ih (d + 1) σ2 (by omega) f2
            · skip
              exact absurd h109 (ni_m1 (by rw [hyd d (by omega)]; omega))
          · skip
            exact absurd (show nI 16 ≤ nI 16 from (i_le (by omega) (by omega)).mpr (by omega)) h22
        | succ m2 ih2 =>
          intro n σ2 fo hn2 f2 hfo
          by_cases hff : fo = -1
          · subst hff
            have hny : n ≤ (nib (yv p (nR p S) 5) (d + 1)) := by
              rcases hfo with q | q
              · exact q.2
              · exact absurd q.symm (ni_m1 (by rw [hyd d (by omega)]; omega))
            have inner : ∀ (m3 e : Nat) (σ3 : ex_S), e + m3 = d → FrM σ σ3 → MV σ3 (fun i => rot (Wd S (yv p (nR p S) 5) n d i)) (S 10 0 + e) → Ev RX11 cX11_least 7 7 0 0 "least" (some .long) ev_ext TT.length (fun v9 T9 σ9 μ9 => T9 = TT ∧ ∃ z9, v9 = some (.long z9) ∧ (fun z' σ' μ' => z' = lN (ylv p (nR p S) (S 0 1)) ∧ FrM σ σ' ∧ μ' = μ) z9 σ9 μ9) 0 0 38 [(0, .ref 127), (1, .long (lN (ylv p (nR p S) d))), (3, .int (nI d)), (4, .int (-1)), (5, .int (nI n)), (6, .int (nI e))] [] TT σ3 μ := by
              intro m3
              induction m3 with
              | zero =>
                intro e σ3 he f3 m3v
                obtain rfl : e = d := by omega
                obtain ⟨u1, u2⟩ := (hR.to f3).2.2.2.2 e hdd
                have ve := (hV.2.2.2.2.2.2.2 e hdd)
                refine e_iload dX11_least_38 5 rfl ?_
                refine e_iload_n dX11_least_40 rfl 2 rfl ?_
                refine e_icmp_ge (t := 76) dX11_least_41 (by decide) (fun h41 => ?_) (fun h41 => ?_)
                · skip
                  refine e_aload_n dX11_least_76 rfl 0 rfl ?_
                  refine e_aload_n dX11_least_77 rfl 0 rfl ?_
                  refine e_getR dX11_least_78 lkX11_45 tt_127 rfl ?_
                  refine e_iload_n dX11_least_81 rfl 2 rfl ?_
                  refine e_iald dX11_least_82 tt_139 (vp_in_nI (by omega) (by decide)) ?_
                  rw [i_cl (show e < 2 ^ 31 by omega), u2]
                  refine e_iload dX11_least_83 4 rfl ?_
                  refine e_callVv dX11_least_85 cvX11_248 rfl tt_127 rfl (c11_has hV (F := Wd S (yv p (nR p S) 5) n e) (L := S 10 0 + e) (by omega) ve.1 (show n < 16 by omega) (hR.to f3) m3v) (Nat.le_of_ble_eq_true rfl) (Nat.le_refl _) (Nat.le_refl _) rfl (Nat.le_of_ble_eq_true rfl) (fun s85 m85 q85 => ?_)
                  obtain ⟨m85, f85, g85⟩ := q85
                  rw [g85]
                  have m86 : MV s85 (fun i => rot (Wd S (yv p (nR p S) 5) n e i)) (S 10 0 + e + 1) := m85.cg (fun k hk => by
                    show rot (if k = S 10 0 + e then cw (S 5 (S 8 e)) n (S 0 1) else Wd S (yv p (nR p S) 5) n e k) = _
                    by_cases e9 : k = S 10 0 + e
                    · rw [if_pos e9, e9, ve.2.2.2]
                      congr 1
                      unfold Wd
                      rw [if_neg (by omega), if_neg (by omega)]
                    · rw [if_neg e9])
                  refine e_aload_n dX11_least_88 rfl 0 rfl ?_
                  refine e_callVi dX11_least_89 cvX11_257 rfl tt_127 rfl (c11_solves hp (F := Wd S (yv p (nR p S) 5) n e) (L := S 10 0 + e + 1) (by omega) (fun j _ => Wd_V hV hU (by omega) j) ((hF.to f3).to f85) m86) (Nat.le_of_ble_eq_true rfl) (Nat.le_refl _) (Nat.le_refl _) rfl (Nat.le_of_ble_eq_true rfl) (fun r89 s89 m89 q89 => ?_)
                  obtain ⟨q89, f89, g89⟩ := q89
                  rw [g89]
                  refine e_iconst (v := (-1)) dX11_least_92 rfl ?_
                  refine e_icmp_eq (t := 100) dX11_least_93 (by decide) (fun h93 => ?_) (fun h93 => ?_)
                  · skip
                    skip
                    refine e_iinc (nI (n + 1)) [(0, .ref 127), (1, .long (lN (ylv p (nR p S) e))), (3, .int (nI e)), (4, .int (-1)), (5, .int (nI (n + 1))), (6, .int (nI e))] dX11_least_100 4 rfl (nI_1 n) (by decide) rfl ?_
                    refine e_goto (t := 18) dX11_least_103 (by decide) ?_
                    refine e_lv [(0, .ref 127), (1, .long (lN (ylv p (nR p S) e))), (3, .int (nI e)), (4, .int (-1)), (5, .int (nI (n + 1)))] (List.forall_mem_cons.mpr ⟨List.mem_of_getElem? (i := 0) rfl, List.forall_mem_cons.mpr ⟨List.mem_of_getElem? (i := 1) rfl, List.forall_mem_cons.mpr ⟨List.mem_of_getElem? (i := 2) rfl, List.forall_mem_cons.mpr ⟨List.mem_of_getElem? (i := 3) rfl, List.forall_mem_cons.mpr ⟨List.mem_of_getElem? (i := 4) rfl, fun _ h => absurd h List.not_mem_nil⟩⟩⟩⟩⟩) ?_
                    have hne : n ≠ nib (yv p (nR p S) 5) (e + 1) := fun q => by
                      rcases q89 with z | z
                      · have hgl := grk_le (p := p) (lu (Wd S (yv p (nR p S) 5) n e) (S 10 0 + e + 1) 0)
                        have hll : ∀ m i, (lu (Wd S (yv p (nR p S) 5) n e) m i).length = m := by
                          intro m
                          induction m with
                          | zero => intro i; rfl
                          | succ m ih9 => intro i; show (_ :: _).length = _; rw [List.length_cons, ih9]
                        rw [hll] at hgl
                        exact ni_m1 (by omega) (z.2.symm.trans h93)
                      · exact z.1 (by rw [q]; exact Wd_cons hp hV hU hI hc hdd)
                    exact ih2 (n + 1) s89 (-1) (by omega) ((f3.tr f85).tr f89) (Or.inl ⟨rfl, by omega⟩)
                  · skip
                    skip
                    refine e_iload dX11_least_96 4 rfl ?_
                    refine e_istore [(0, .ref 127), (1, .long (lN (ylv p (nR p S) e))), (3, .int (nI e)), (4, .int (nI n)), (5, .int (nI n)), (6, .int (nI e))] dX11_least_98 (by decide) rfl ?_
                    refine e_iinc (nI (n + 1)) [(0, .ref 127), (1, .long (lN (ylv p (nR p S) e))), (3, .int (nI e)), (4, .int (nI n)), (5, .int (nI (n + 1))), (6, .int (nI e))] dX11_least_100 4 rfl (nI_1 n) (by decide) rfl ?_
                    refine e_goto (t := 18) dX11_least_103 (by decide) ?_
                    refine e_lv [(0, .ref 127), (1, .long (lN (ylv p (nR p S) e))), (3, .int (nI e)), (4, .int (nI n)), (5, .int (nI (n + 1)))] (List.forall_mem_cons.mpr ⟨List.mem_of_getElem? (i := 0) rfl, List.forall_mem_cons.mpr ⟨List.mem_of_getElem? (i := 1) rfl, List.forall_mem_cons.mpr ⟨List.mem_of_getElem? (i := 2) rfl, List.forall_mem_cons.mpr ⟨List.mem_of_getElem? (i := 3) rfl, List.forall_mem_cons.mpr ⟨List.mem_of_getElem? (i := 4) rfl, fun _ h => absurd h List.not_mem_nil⟩⟩⟩⟩⟩) ?_
                    have heq : n = nib (yv p (nR p S) 5) (e + 1) := by
                      rcases q89 with z | z
                      · have := Wd_least hp hV hU hI hdd (by omega) z.1
                        omega
                      · exact absurd z.2 h93
                    exact ih2 (n + 1) s89 (nI n) (by omega) ((f3.tr f85).tr f89) (Or.inr (congrArg nI heq))
                · skip
                  exact absurd (show nI e ≤ nI e from (i_le (by omega) (by omega)).mpr (by omega)) h41
              | succ m3 ih3 =>
                intro e σ3 he f3 m3v
                obtain ⟨u1, u2⟩ := (hR.to f3).2.2.2.2 e (by omega)
                have ve := (hV.2.2.2.2.2.2.2 e (by omega))
                have hdig := ylv_dig hp (nR p S) d e (by omega)
                have hse := ysm_lt hp (nR p S) e
                have hsm : ((nI (4 * (d - 1 - e))).toInt64 &&& 63).toBitVec.smod 64 = ((nI (4 * (d - 1 - e))).toInt64 &&& 63).toBitVec.smod 64 := rfl
                refine e_iload dX11_least_38 5 rfl ?_
                refine e_iload_n dX11_least_40 rfl 2 rfl ?_
                refine e_icmp_ge (t := 76) dX11_least_41 (by decide) (fun h41 => ?_) (fun h41 => ?_)
                · skip
                  exact absurd ((i_le (by omega) (by omega)).mp (show nI d ≤ nI e from h41)) (by omega)
                · skip
                  refine e_aload_n dX11_least_44 rfl 0 rfl ?_
                  refine e_aload_n dX11_least_45 rfl 0 rfl ?_
                  refine e_getR dX11_least_46 lkX11_45 tt_127 rfl ?_
                  refine e_iload dX11_least_49 5 rfl ?_
                  refine e_iald dX11_least_51 tt_139 (vp_in_nI (by omega) (by decide)) ?_
                  rw [i_cl (show e < 2 ^ 31 by omega), u2]
                  refine e_lload_n dX11_least_52 rfl 1 rfl ?_
                  refine e_iconst (v := 4) dX11_least_53 rfl ?_
                  refine e_iload_n dX11_least_54 rfl 2 rfl ?_
                  refine e_iconst (v := 1) dX11_least_55 rfl ?_
                  refine e_isub dX11_least_56 ?_
                  refine e_iload dX11_least_57 5 rfl ?_
                  refine e_isub dX11_least_59 ?_
                  rw [show nI d - 1 - nI e = nI (d - 1 - e) from by rw [show (1 : Int32) = nI 1 from rfl, i_sub (by omega), i_sub (by omega)]]
                  refine e_imul dX11_least_60 ?_
                  rw [show (4 : Int32) = nI 4 from rfl, i_mul]
                  refine e_lshr dX11_least_61 ?_
                  have hshr : lN (ylv p (nR p S) d) >>> ((nI (4 * (d - 1 - e))).toInt64 &&& 63) = lN (ylv p (nR p S) d / 2 ^ (4 * (d - 1 - e))) := by
                    have hk : ∀ k, k < 5 → (((nI (4 * k)).toInt64 &&& 63).toBitVec.smod 64).toNat = 4 * k := by decide +kernel
                    exact pf_shr (hk _ (by omega)) (by omega)
                  rw [hshr]
                  refine e_ldc2 dX11_least_62 kcX11_255 ?_
                  refine e_land dX11_least_65 ?_
                  rw [show lN (ylv p (nR p S) d / 2 ^ (4 * (d - 1 - e))) &&& 15 = lN (ysm p (nR p S) e) from (wb_mask (k := 4) (by have := Nat.div_le_self (ylv p (nR p S) d) (2 ^ (4 * (d - 1 - e))); omega) (by decide)).trans (congrArg lN hdig)]
                  refine e_l2i dX11_least_66 ?_
                  rw [lN_i]
                  refine e_callVv dX11_least_67 cvX11_248 rfl tt_127 rfl (c11_has hV (F := Wd S (yv p (nR p S) 5) n d) (L := S 10 0 + e) (by omega) ve.1 hse (hR.to f3) m3v) (Nat.le_of_ble_eq_true rfl) (Nat.le_refl _) (Nat.le_refl _) rfl (Nat.le_of_ble_eq_true rfl) (fun s67 m67 q67 => ?_)
                  obtain ⟨m67, f67, g67⟩ := q67
                  rw [g67]
                  refine e_iinc (nI (e + 1)) [(0, .ref 127), (1, .long (lN (ylv p (nR p S) d))), (3, .int (nI d)), (4, .int (-1)), (5, .int (nI n)), (6, .int (nI (e + 1)))] dX11_least_70 5 rfl (nI_1 e) (by decide) rfl ?_
                  refine e_goto (t := 38) dX11_least_73 (by decide) ?_
                  refine ih3 (e + 1) s67 (by omega) (f3.tr f67) (m67.cg (fun k hk => ?_))
                  show rot (if k = S 10 0 + e then cw (S 5 (S 8 e)) (ysm p (nR p S) e) (S 0 1) else Wd S (yv p (nR p S) 5) n d k) = _
                  by_cases e9 : k = S 10 0 + e
                  · rw [if_pos e9, e9, ve.2.2.2]
                    congr 1
                    unfold Wd
                    rw [if_neg (by omega), if_pos (by omega), show S 10 0 + e - S 10 0 = e by omega, hyd e (by omega)]
                  · rw [if_neg e9]
            refine e_iload dX11_least_18 4 rfl ?_
            refine e_bipush (v := 16) dX11_least_20 rfl ?_
            refine e_icmp_ge (t := 106) dX11_least_22 (by decide) (fun h22 => ?_) (fun h22 => ?_)
            · skip
              exact absurd ((i_le (by omega) (by omega)).mp (show nI 16 ≤ nI n from h22)) (by omega)
            · skip
              refine e_iload dX11_least_25 3 rfl ?_
              refine e_iconst (v := (-1)) dX11_least_27 rfl ?_
              refine e_icmp_ne (t := 106) dX11_least_28 (by decide) (fun h28 => ?_) (fun h28 => ?_)
              · skip
                exact absurd rfl h28
              · skip
                refine e_aload_n dX11_least_31 rfl 0 rfl ?_
                refine e_callVv dX11_least_32 cvX11_252 rfl tt_127 rfl (c11_sees hV hU (hR.to f2) (hG.fm f2 (by decide) (by decide) (by decide) (by decide) (by decide))) (Nat.le_of_ble_eq_true rfl) (Nat.le_refl _) (Nat.le_refl _) rfl (Nat.le_of_ble_eq_true rfl) (fun s32 m32 q32 => ?_)
                obtain ⟨m32, f32, g32⟩ := q32
                rw [g32]
                refine e_iconst (v := 0) dX11_least_35 rfl ?_
                refine e_istore [(0, .ref 127), (1, .long (lN (ylv p (nR p S) d))), (3, .int (nI d)), (4, .int (-1)), (5, .int (nI n)), (6, .int (nI 0))] dX11_least_36 (by decide) rfl ?_
                exact inner d 0 s32 (by omega) (f2.tr f32) (m32.cg (fun k hk => by
                  congr 1
                  unfold Wd
                  rw [if_pos (by omega)]))
          · have hfo2 : fo = nI (nib (yv p (nR p S) 5) (d + 1)) := hfo.resolve_left (fun q => hff q.1)
            subst hfo2
            refine e_iload dX11_least_18 4 rfl ?_
            refine e_bipush (v := 16) dX11_least_20 rfl ?_
            refine e_icmp_ge (t := 106) dX11_least_22 (by decide) (fun h22 => ?_) (fun h22 => ?_)
            · skip
              exact absurd ((i_le (by omega) (by omega)).mp (show nI 16 ≤ nI n from h22)) (by omega)
            · skip
              refine e_iload dX11_least_25 3 rfl ?_
              refine e_iconst (v := (-1)) dX11_least_27 rfl ?_
              refine e_icmp_ne (t := 106) dX11_least_28 (by decide) (fun h28 => ?_) (fun h28 => ?_)
              · skip
                refine e_iload dX11_least_106 3 rfl ?_
                refine e_iconst (v := (-1)) dX11_least_108 rfl ?_
                refine e_icmp_ne (t := 116) dX11_least_109 (by decide) (fun h109 => ?_) (fun h109 => ?_)
                · skip
                  refine e_ldc2 dX11_least_116 kcX11_262 ?_
                  refine e_lload_n dX11_least_119 rfl 1 rfl ?_
                  refine e_lmul dX11_least_120 ?_
                  refine e_iload dX11_least_121 3 rfl ?_
                  refine e_i2l dX11_least_123 ?_
                  refine e_ladd dX11_least_124 ?_
                  rw [nI_l (show nib (yv p (nR p S) 5) (d + 1) < 2 ^ 31 from Nat.lt_trans (nib_lt _ _) (by decide)), show (16 : Int64) = lN 16 from rfl, lN_mul, lN_add, show 16 * ylv p (nR p S) d + nib (yv p (nR p S) 5) (d + 1) = ylv p (nR p S) (d + 1) from by rw [hyd d (by omega)]; rfl]
                  refine e_lstore_n [(0, .ref 127), (1, .long (lN (ylv p (nR p S) (d + 1)))), (3, .int (nI d)), (4, .int (nI (nib (yv p (nR p S) 5) (d + 1)))), (5, .int (nI n))] dX11_least_125 rfl (by decide) rfl ?_
                  refine e_iinc (nI (d + 1)) [(0, .ref 127), (1, .long (lN (ylv p (nR p S) (d + 1)))), (3, .int (nI (d + 1))), (4, .int (nI (nib (yv p (nR p S) 5) (d + 1)))), (5, .int (nI n))] dX11_least_126 2 rfl (nI_1 d) (by decide) rfl ?_
                  refine e_goto (t := 4) dX11_least_129 (by decide) ?_
                  refine e_lv [(0, .ref 127), (1, .long (lN (ylv p (nR p S) (d + 1)))), (3, .int (nI (d + 1)))] (List.forall_mem_cons.mpr ⟨List.mem_of_getElem? (i := 0) rfl, List.forall_mem_cons.mpr ⟨List.mem_of_getElem? (i := 1) rfl, List.forall_mem_cons.mpr ⟨List.mem_of_getElem? (i := 2) rfl, fun _ h => absurd h List.not_mem_nil⟩⟩⟩) ?_
                  exact ih (d + 1) σ2 (by omega) f2
                · skip
                  exact absurd h109 hff
              · skip
                exact absurd h28 hff
      refine e_iload_n dX11_least_4 rfl 2 rfl ?_
      refine e_aload_n dX11_least_5 rfl 0 rfl ?_
      refine e_getI dX11_least_6 lkX11_134 tt_127 rfl ?_
      rw [(hR.to f1).2.1]
      refine e_icmp_ge (t := 132) dX11_least_9 (by decide) (fun h9 => ?_) (fun h9 => ?_)
      · skip
        exact absurd ((i_le (by omega) (by omega)).mp (show nI (S 0 1) ≤ nI d from h9)) (by omega)
      · skip
        refine e_iconst (v := (-1)) dX11_least_12 rfl ?_
        refine e_istore [(0, .ref 127), (1, .long (lN (ylv p (nR p S) d))), (3, .int (nI d)), (4, .int (-1))] dX11_least_13 (by decide) rfl ?_
        refine e_iconst (v := 0) dX11_least_15 rfl ?_
        refine e_istore [(0, .ref 127), (1, .long (lN (ylv p (nR p S) d))), (3, .int (nI d)), (4, .int (-1)), (5, .int (nI 0))] dX11_least_16 (by decide) rfl ?_
        exact mid 16 0 σ1 (-1) (by omega) f1 (Or.inl ⟨rfl, Nat.zero_le _⟩)
  refine e_lconst (v := 0) dX11_least_0 rfl ?_
  refine e_lstore_n [(0, .ref 127), (1, .long (lN (ylv p (nR p S) 0)))] dX11_least_1 rfl (by decide) rfl ?_
  refine e_iconst (v := 0) dX11_least_2 rfl ?_
  refine e_istore_n [(0, .ref 127), (1, .long (lN (ylv p (nR p S) 0))), (3, .int (nI 0))] dX11_least_3 rfl (by decide) rfl ?_
  exact outer (S 0 1) 0 σ (by omega) FrM.rf

set_option maxRecDepth 100000 in
theorem c11_ways {p : Nat} (hp : gP p) {S : ns_T} (hV : VS S) (hU : PSV S) {w : Int32} {σ : ex_S} {μ : ex_L}(hF : FR σ p) (hR : NR σ S) (hG : PH σ 22 142 S 10) : Cg 8 yX11_ways cX11_ways 3 (some .long) [.ref 127, .int w] TT σ μ (fun z' σ' μ' => z' = nways p S w ∧ FrM σ σ' ∧ μ' = μ) := by
  refine Cl_of (by decide +kernel) (Nat.le_of_ble_eq_true rfl) ?_
  show Ev RX11 cX11_ways 3 8 0 0 "ways" (some .long) ev_ext _ _ 0 0 0 [(0, .ref 127), (1, .int w)] [] TT σ μ
  have hd := hV.2.1
  have hz := hU.1
  have hgl : grk p (Wl S) ≤ 6 := grk6 hp (Wl_V hV hU)
  refine e_iload_n dX11_ways_0 rfl 1 rfl ?_
  refine e_iconst (v := 0) dX11_ways_1 rfl ?_
  refine e_iconst (v := 1) dX11_ways_2 rfl ?_
  refine e_callSi dX11_ways_3 cvX11_99 rfl (c11_within w 0 1) (Nat.le_of_ble_eq_true rfl) (Nat.le_refl _) (Nat.le_refl _) rfl (Nat.le_of_ble_eq_true rfl) (fun r3 s3 m3 q3 => ?_)
  obtain ⟨q3, e3, g3⟩ := q3
  rw [e3, g3]
  clear e3 g3 s3 m3
  refine e_if_ne (t := 13) dX11_ways_6 (by decide) (fun h6 => ?_) (fun h6 => ?_)
  · skip
    rw [q3, bI_eq0] at h6
    have hP := i01 (Classical.not_not.mp h6)
    refine e_aload_n dX11_ways_13 rfl 0 rfl ?_
    refine e_callVv dX11_ways_14 cvX11_252 rfl tt_127 rfl (c11_sees hV hU hR hG) (Nat.le_of_ble_eq_true rfl) (Nat.le_refl _) (Nat.le_refl _) rfl (Nat.le_of_ble_eq_true rfl) (fun s14 m14 q14 => ?_)
    obtain ⟨m14, f14, g14⟩ := q14
    rw [g14]
    refine e_aload_n dX11_ways_17 rfl 0 rfl ?_
    refine e_callVi dX11_ways_18 cvX11_257 rfl tt_127 rfl (c11_solves hp (F := srw S) (L := S 10 0) (by omega) (fun j hj => cw_lt hd (hU.2.2.2.1 j hj).2) (hF.to f14) m14) (Nat.le_of_ble_eq_true rfl) (Nat.le_refl _) (Nat.le_refl _) rfl (Nat.le_of_ble_eq_true rfl) (fun r18 s18 m18 q18 => ?_)
    obtain ⟨q18, f18, g18⟩ := q18
    rw [g18]
    have q18 : (Cons p (Wl S) ∧ r18 = nI (grk p (Wl S))) ∨ (¬ Cons p (Wl S) ∧ r18 = -1) := q18
    refine e_istore_n [(0, .ref 127), (1, .int w), (2, .int r18)] dX11_ways_21 rfl (by decide) rfl ?_
    refine e_iload_n dX11_ways_22 rfl 2 rfl ?_
    refine e_iconst (v := (-1)) dX11_ways_23 rfl ?_
    refine e_icmp_ne (t := 39) dX11_ways_24 (by decide) (fun h24 => ?_) (fun h24 => ?_)
    · skip
      have hcc : Cons p (Wl S) := by
        rcases q18 with q | q
        · exact q.1
        · exact absurd q.2 h24
      have hrk : r18 = nI (grk p (Wl S)) := by
        rcases q18 with q | q
        · exact q.2
        · exact absurd q.2 h24
      refine e_iload_n dX11_ways_39 rfl 1 rfl ?_
      refine e_if_ne (t := 56) dX11_ways_40 (by decide) (fun h40 => ?_) (fun h40 => ?_)
      · skip
        skip
        refine e_aload_n dX11_ways_56 rfl 0 rfl ?_
        refine e_callVl dX11_ways_57 cvX11_264 rfl tt_127 rfl (c11_least hp hV hU hcc (hF.to (f14.tr f18)) (hR.to (f14.tr f18)) (hG.fm (f14.tr f18) (by decide) (by decide) (by decide) (by decide) (by decide))) (Nat.le_of_ble_eq_true rfl) (Nat.le_refl _) (Nat.le_refl _) rfl (Nat.le_of_ble_eq_true rfl) (fun r57 s57 m57 q57 => ?_)
        obtain ⟨q57, f57, g57⟩ := q57
        rw [g57]
        refine e_retl dX11_ways_60 (Nat.le_refl _) (Nat.le_refl _) ?_
        have hr : nways p S w = lN (ylv p (nR p S) (S 0 1)) := (if_neg h40).trans ((if_pos (hP.resolve_left h40)).trans (cif_t hcc))
        rw [hr]
        exact ⟨q57, (f14.tr f18).tr f57, rfl⟩
      · skip
        skip
        refine e_lconst (v := 1) dX11_ways_43 rfl ?_
        refine e_iconst (v := 4) dX11_ways_44 rfl ?_
        refine e_aload_n dX11_ways_45 rfl 0 rfl ?_
        refine e_getI dX11_ways_46 lkX11_134 tt_127 rfl ?_
        refine e_iload_n dX11_ways_49 rfl 2 rfl ?_
        rw [(hR.to (f14.tr f18)).2.1, hrk]
        refine e_isub dX11_ways_50 ?_
        refine e_imul dX11_ways_51 ?_
        refine e_lshl dX11_ways_52 ?_
        refine e_goto (t := 60) dX11_ways_53 (by decide) ?_
        refine e_retl dX11_ways_60 (Nat.le_refl _) (Nat.le_refl _) ?_
        have hr : nways p S w = ((1 : Int64) <<< (((4 : Int32) * (nI (S 0 1) - nI (grk p (Wl S)))).toInt64 &&& 63)) := (if_pos h40).trans (cif_t hcc)
        rw [hr]
        exact ⟨rfl, (f14.tr f18), rfl⟩
    · skip
      have hcc : ¬ Cons p (Wl S) := by
        rcases q18 with q | q
        · exact absurd (q.2.symm.trans h24) (ni_m1 (by omega))
        · exact q.1
      refine e_iload_n dX11_ways_27 rfl 1 rfl ?_
      refine e_if_ne (t := 35) dX11_ways_28 (by decide) (fun h28 => ?_) (fun h28 => ?_)
      · skip
        skip
        refine e_ldc2 dX11_ways_35 kcX11_260 ?_
        refine e_retl dX11_ways_38 (Nat.le_refl _) (Nat.le_refl _) ?_
        have hr : nways p S w = -9223372036854775808 := (if_neg h28).trans ((if_pos (hP.resolve_left h28)).trans (cif_f hcc))
        rw [hr]
        exact ⟨rfl, (f14.tr f18), rfl⟩
      · skip
        skip
        refine e_lconst (v := 0) dX11_ways_31 rfl ?_
        refine e_goto (t := 38) dX11_ways_32 (by decide) ?_
        refine e_retl dX11_ways_38 (Nat.le_refl _) (Nat.le_refl _) ?_
        have hr : nways p S w = 0 := (if_pos h28).trans (cif_f hcc)
        rw [hr]
        exact ⟨rfl, (f14.tr f18), rfl⟩
  · skip
    rw [q3] at h6
    have h6 := bI_eq0.mp h6
    refine e_ldc2 dX11_ways_9 kcX11_260 ?_
    refine e_retl dX11_ways_12 (Nat.le_refl _) (Nat.le_refl _) ?_
    have hr : nways p S w = -9223372036854775808 := (if_neg (fun q => h6 (i01' (Or.inl q)))).trans (if_neg (fun q => h6 (i01' (Or.inr q))))
    rw [hr]
    exact ⟨rfl, FrM.rf, rfl⟩

set_option maxHeartbeats 1000000 in
set_option maxRecDepth 100000 in
theorem c11_can {p : Nat} (hp : gP p) {S : ns_T} (hV : VS S) (hU : PSV S) {x : Int32} {σ : ex_S} {μ : ex_L}(hF : FR σ p) (hR : NR σ S) (hG : PH σ 22 142 S 10) : Ci 7 yX11_can cX11_can 4 (some .int) [.ref 127, .int x] TT σ μ (fun z' σ' μ' => z' = ncan2 p S x ∧ FrM σ σ' ∧ μ' = μ) := by
  refine Cl_of (by decide +kernel) (Nat.le_of_ble_eq_true rfl) ?_
  show Ev RX11 cX11_can 4 7 0 0 "can" (some .int) ev_ext _ _ 0 0 0 [(0, .ref 127), (1, .int x)] [] TT σ μ
  have hn := hV.1
  have hd := hV.2.1
  have hz := hU.1
  have loop : ∀ (k : Nat), k < S 0 0 → ncan2 p S x = nI (nset (fun n => Cons p (cw (S 5 k) n (S 0 1) :: Wl S)) 16) → ∀ (m n : Nat) (σ1 : ex_S), n + m = 16 → FrM σ σ1 → Ev RX11 cX11_can 4 7 0 0 "can" (some .int) ev_ext TT.length (fun v9 T9 σ9 μ9 => T9 = TT ∧ ∃ z9, v9 = some (.int z9) ∧ (fun z' σ' μ' => z' = ncan2 p S x ∧ FrM σ σ' ∧ μ' = μ) z9 σ9 μ9) 0 0 14 [(0, .ref 127), (1, .int (nI k)), (2, .int (nI (nset (fun n => Cons p (cw (S 5 k) n (S 0 1) :: Wl S)) n))), (3, .int (nI n))] [] TT σ1 μ := by
    intro k hk hr m
    induction m with
    | zero =>
      intro n σ1 hn2 f1
      obtain rfl : n = 16 := by omega
      refine e_iload_n dX11_can_14 rfl 3 rfl ?_
      refine e_bipush (v := 16) dX11_can_15 rfl ?_
      refine e_icmp_ge (t := 50) dX11_can_17 (by decide) (fun h17 => ?_) (fun h17 => ?_)
      · skip
        refine e_iload_n dX11_can_50 rfl 2 rfl ?_
        refine e_reti dX11_can_51 ev_nwi (Nat.le_refl _) (Nat.le_refl _) ?_
        rw [hr]
        exact ⟨rfl, f1, rfl⟩
      · skip
        exact absurd (show nI 16 ≤ nI 16 from (i_le (by omega) (by omega)).mpr (by omega)) h17
    | succ m ih =>
      intro n σ1 hn2 f1
      have hFF : ∀ j, j < S 10 0 + 1 → (if j = S 10 0 then cw (S 5 k) n (S 0 1) else srw S j) < 2 ^ 24 := fun j hj => by
        split
        · exact cw_lt hd (by omega)
        · exact cw_lt hd (hU.2.2.2.1 j (by omega)).2
      have hmem : ∀ v, v ∈ lu (fun j => if j = S 10 0 then cw (S 5 k) n (S 0 1) else srw S j) (S 10 0 + 1) 0 ↔ v ∈ cw (S 5 k) n (S 0 1) :: Wl S := fun v => by
        rw [List.mem_cons, lu_mem]
        unfold Wl
        rw [lu_mem]
        constructor
        · rintro ⟨j, h1, h2, h3⟩
          (try dsimp only at h3)
          by_cases e : j = S 10 0
          · rw [if_pos e] at h3
            exact Or.inl h3
          · rw [if_neg e] at h3
            exact Or.inr ⟨j, by omega, by omega, h3⟩
        · rintro (h | ⟨j, h1, h2, h3⟩)
          · exact ⟨S 10 0, by omega, by omega, by (try dsimp only); rw [if_pos rfl]; exact h⟩
          · exact ⟨j, by omega, by omega, by (try dsimp only); rw [if_neg (by omega)]; exact h3⟩
      have hV1 : Vs (lu (fun j => if j = S 10 0 then cw (S 5 k) n (S 0 1) else srw S j) (S 10 0 + 1) 0) := Vs_lu hFF (by omega)
      have hV2 : Vs (cw (S 5 k) n (S 0 1) :: Wl S) := (Wl_V hV hU).cons (cw_lt hd (by omega))
      have hiff : Cons p (lu (fun j => if j = S 10 0 then cw (S 5 k) n (S 0 1) else srw S j) (S 10 0 + 1) 0) ↔ Cons p (cw (S 5 k) n (S 0 1) :: Wl S) :=
        ⟨fun q z => q (sp_sub hp hV1 (fun u hu => (hmem u).mpr hu) z), fun q z => q (sp_sub hp hV2 (fun u hu => (hmem u).mp hu) z)⟩
      have hgl := grk6 hp hV1
      refine e_iload_n dX11_can_14 rfl 3 rfl ?_
      refine e_bipush (v := 16) dX11_can_15 rfl ?_
      refine e_icmp_ge (t := 50) dX11_can_17 (by decide) (fun h17 => ?_) (fun h17 => ?_)
      · skip
        exact absurd ((i_le (by omega) (by omega)).mp (show nI 16 ≤ nI n from h17)) (by omega)
      · skip
        refine e_aload_n dX11_can_20 rfl 0 rfl ?_
        refine e_callVv dX11_can_21 cvX11_252 rfl tt_127 rfl (c11_sees hV hU (hR.to f1) (hG.fm f1 (by decide) (by decide) (by decide) (by decide) (by decide))) (Nat.le_of_ble_eq_true rfl) (Nat.le_refl _) (Nat.le_refl _) rfl (Nat.le_of_ble_eq_true rfl) (fun s21 m21 q21 => ?_)
        obtain ⟨m21, f21, g21⟩ := q21
        rw [g21]
        refine e_aload_n dX11_can_24 rfl 0 rfl ?_
        refine e_iload_n dX11_can_25 rfl 1 rfl ?_
        refine e_iload_n dX11_can_26 rfl 3 rfl ?_
        refine e_callVv dX11_can_27 cvX11_248 rfl tt_127 rfl (c11_has hV (F := srw S) (L := S 10 0) (by omega) hk (show n < 16 by omega) (hR.to (f1.tr f21)) m21) (Nat.le_of_ble_eq_true rfl) (Nat.le_refl _) (Nat.le_refl _) rfl (Nat.le_of_ble_eq_true rfl) (fun s27 m27 q27 => ?_)
        obtain ⟨m27, f27, g27⟩ := q27
        rw [g27]
        refine e_aload_n dX11_can_30 rfl 0 rfl ?_
        refine e_callVi dX11_can_31 cvX11_257 rfl tt_127 rfl (c11_solves hp (F := fun j => if j = S 10 0 then cw (S 5 k) n (S 0 1) else srw S j) (L := S 10 0 + 1) (by omega) hFF (hF.to ((f1.tr f21).tr f27)) m27) (Nat.le_of_ble_eq_true rfl) (Nat.le_refl _) (Nat.le_refl _) rfl (Nat.le_of_ble_eq_true rfl) (fun r31 s31 m31 q31 => ?_)
        obtain ⟨q31, f31, g31⟩ := q31
        rw [g31]
        refine e_iconst (v := (-1)) dX11_can_34 rfl ?_
        refine e_icmp_eq (t := 44) dX11_can_35 (by decide) (fun h35 => ?_) (fun h35 => ?_)
        · skip
          skip
          refine e_iinc (nI (n + 1)) [(0, .ref 127), (1, .int (nI k)), (2, .int (nI (nset (fun n => Cons p (cw (S 5 k) n (S 0 1) :: Wl S)) n))), (3, .int (nI (n + 1)))] dX11_can_44 3 rfl (nI_1 n) (by decide) rfl ?_
          refine e_goto (t := 14) dX11_can_47 (by decide) ?_
          have hno : ¬ Cons p (cw (S 5 k) n (S 0 1) :: Wl S) := fun q => by
            rcases q31 with z | z
            · exact ni_m1 (by omega) (z.2.symm.trans h35)
            · exact z.1 (hiff.mpr q)
          have h9 := ih (n + 1) s31 (by omega) (((f1.tr f21).tr f27).tr f31)
          rw [nset_f (P := (fun n => Cons p (cw (S 5 k) n (S 0 1) :: Wl S))) hno] at h9
          exact h9
        · skip
          skip
          refine e_iload_n dX11_can_38 rfl 2 rfl ?_
          refine e_iconst (v := 1) dX11_can_39 rfl ?_
          refine e_iload_n dX11_can_40 rfl 3 rfl ?_
          refine e_ishl dX11_can_41 ?_
          rw [i_shl1 (by omega)]
          refine e_ior dX11_can_42 ?_
          rw [fa_or]
          refine e_istore_n [(0, .ref 127), (1, .int (nI k)), (2, .int (nI (nset (fun n => Cons p (cw (S 5 k) n (S 0 1) :: Wl S)) n ||| 2 ^ n))), (3, .int (nI n))] dX11_can_43 rfl (by decide) rfl ?_
          refine e_iinc (nI (n + 1)) [(0, .ref 127), (1, .int (nI k)), (2, .int (nI (nset (fun n => Cons p (cw (S 5 k) n (S 0 1) :: Wl S)) n ||| 2 ^ n))), (3, .int (nI (n + 1)))] dX11_can_44 3 rfl (nI_1 n) (by decide) rfl ?_
          refine e_goto (t := 14) dX11_can_47 (by decide) ?_
          have hyes : Cons p (cw (S 5 k) n (S 0 1) :: Wl S) := by
            rcases q31 with z | z
            · exact hiff.mp z.1
            · exact absurd z.2 h35
          have h9 := ih (n + 1) s31 (by omega) (((f1.tr f21).tr f27).tr f31)
          rw [nset_t (P := (fun n => Cons p (cw (S 5 k) n (S 0 1) :: Wl S))) hyes] at h9
          exact h9
  refine e_aload_n dX11_can_0 rfl 0 rfl ?_
  refine e_iload_n dX11_can_1 rfl 1 rfl ?_
  refine e_callVi dX11_can_2 cvX11_169 rfl tt_127 rfl (c11_isOneN hV hR x) (Nat.le_of_ble_eq_true rfl) (Nat.le_refl _) (Nat.le_refl _) rfl (Nat.le_of_ble_eq_true rfl) (fun r2 s2 m2 q2 => ?_)
  obtain ⟨q2, e2, g2⟩ := q2
  rw [e2, g2]
  clear e2 g2 s2 m2
  refine e_if_ne (t := 10) dX11_can_5 (by decide) (fun h5 => ?_) (fun h5 => ?_)
  · skip
    rw [q2, bI_eq0] at h5
    have hP := Classical.not_not.mp h5
    obtain ⟨k, hk, rfl⟩ := i_ofl (x := x) (m := S 0 0) (by omega) hP.1 (show _ < nI (S 0 0) from hP.2)
    refine e_iconst (v := 0) dX11_can_10 rfl ?_
    refine e_istore_n [(0, .ref 127), (1, .int (nI k)), (2, .int (nI (nset (fun n => Cons p (cw (S 5 k) n (S 0 1) :: Wl S)) 0)))] dX11_can_11 rfl (by decide) rfl ?_
    refine e_iconst (v := 0) dX11_can_12 rfl ?_
    refine e_istore_n [(0, .ref 127), (1, .int (nI k)), (2, .int (nI (nset (fun n => Cons p (cw (S 5 k) n (S 0 1) :: Wl S)) 0))), (3, .int (nI 0))] dX11_can_13 rfl (by decide) rfl ?_
    have hr : ncan2 p S (nI k) = nI (nset (fun n => Cons p (cw (S 5 k) n (S 0 1) :: Wl S)) 16) := by
      unfold ncan2
      rw [cif_t hP, i_cl (show k < 2 ^ 31 by omega)]
    exact loop k hk hr 16 0 σ (by omega) FrM.rf
  · skip
    rw [q2] at h5
    have h5 := bI_eq0.mp h5
    refine e_iconst (v := (-1)) dX11_can_8 rfl ?_
    refine e_reti dX11_can_9 ev_nwi (Nat.le_refl _) (Nat.le_refl _) ?_
    have hr : ncan2 p S x = -1 := cif_f h5
    rw [hr]
    exact ⟨rfl, FrM.rf, rfl⟩
