/-! the reference's image: 202 places, each of an object and an index -/
def wob (q : Nat) : Nat := if q < 70 then [131, 132, 133, 134, 135, 144, 145].getD (q / 10) 0 else if q < 120 then 136 else if q < 160 then 137 else if q < 165 then 138 else if q < 170 then 139 else if q < 175 then 142 else if q < 180 then 143 else if q < 188 then 146 else if q < 196 then 147 else 127
def wix (q : Nat) : Nat := if q < 70 then q % 10 else if q < 120 then q - 70 else if q < 160 then q - 120 else if q < 165 then q - 160 else if q < 170 then q - 165 else if q < 175 then q - 170 else if q < 180 then q - 175 else if q < 188 then q - 180 else if q < 196 then q - 188 else [5, 6, 7, 22, 25, 28].getD (q - 196) 0
def wim (σ : ex_S) (q : Nat) : Int32 := σ (wob q) (wix q)
theorem winj : ∀ q, q < 202 → ∀ q', q' < 202 → wob q = wob q' → wix q = wix q' → q = q' := by decide +kernel
theorem wno31 : ∀ q, q < 202 → ¬ (wob q = 127 ∧ (wix q = 31 ∨ wix q = 35 ∨ wix q = 36 ∨ wix q = 37 ∨ wix q = 17 ∨ wix q = 19 ∨ wix q = 20)) ∧ wob q ≠ 148 ∧ wob q ≠ 149 ∧ wob q ≠ 150 := by decide +kernel
theorem wim_up {σ : ex_S} {o k q q0 : Nat} {v : Int32} (hq : q < 202) (h0 : q0 < 202) (ho : wob q0 = o) (hk : wix q0 = k) : wim (sup σ o k v) q = if q = q0 then v else wim σ q := by
  subst ho
  subst hk
  unfold wim
  by_cases e : q = q0
  · rw [if_pos e, e, sup_same]
  · rw [if_neg e]
    by_cases e2 : wob q = wob q0
    · rw [e2, sup_idx (fun z => e (winj q hq q0 h0 e2 z))]
    · rw [sup_obj e2]
def Wfr (σ σ1 : ex_S) : Prop := (∀ i, ¬ (i = 127 ∨ (131 ≤ i ∧ i ≤ 139) ∨ (142 ≤ i ∧ i ≤ 147)) → σ1 i = σ i) ∧ ∀ k, k ≠ 5 → k ≠ 6 → k ≠ 7 → k ≠ 22 → k ≠ 25 → k ≠ 28 → σ1 127 k = σ 127 k
theorem Wfr.rf {σ : ex_S} : Wfr σ σ := ⟨fun _ _ => rfl, fun _ _ _ _ _ _ _ => rfl⟩
theorem Wfr.arr {σ σ1 : ex_S} (h : Wfr σ σ1) {o k : Nat} {v : Int32} (ho : (131 ≤ o ∧ o ≤ 139) ∨ (142 ≤ o ∧ o ≤ 147)) : Wfr σ (sup σ1 o k v) := ⟨fun i hi => by rw [sup_obj (by omega)]; exact h.1 i hi, fun j a b c d e f => by rw [sup_obj (by omega)]; exact h.2 j a b c d e f⟩
theorem Wfr.fld {σ σ1 : ex_S} (h : Wfr σ σ1) {k : Nat} {v : Int32} (hk : k = 5 ∨ k = 6 ∨ k = 7 ∨ k = 22 ∨ k = 25 ∨ k = 28) : Wfr σ (sup σ1 127 k v) := ⟨fun i hi => by rw [sup_obj (by omega)]; exact h.1 i hi, fun j a b c d e f => by rw [sup_idx (by omega)]; exact h.2 j a b c d e f⟩
theorem dn_or {σ σ1 : ex_S} {c q0 : Nat} {P : Nat → Prop} {v : Int32} (h : ∀ q, P q → σ1 c q = wim σ q) (hv : v = wim σ q0) : ∀ q, (P q ∨ q = q0) → sup σ1 c q0 v c q = wim σ q := fun q hq => by
  by_cases e : q = q0
  · rw [e, sup_same, hv]
  · rw [sup_idx e]
    exact h q (hq.resolve_right e)
theorem ag_or {σ σ1 : ex_S} {c q0 o k : Nat} {P : Nat → Prop} {v : Int32} (h : ∀ q, q < 202 → P q → wim σ1 q = σ c q) (h0 : q0 < 202) (ho : wob q0 = o ∧ wix q0 = k) (hv : v = σ c q0) : ∀ q, q < 202 → (P q ∨ q = q0) → wim (sup σ1 o k v) q = σ c q := fun q hq hp => by
  rw [wim_up hq h0 ho.1 ho.2]
  by_cases e : q = q0
  · rw [if_pos e, e, hv]
  · rw [if_neg e]
    exact h q hq (hp.resolve_right e)

theorem wo_0 : ∀ p, p < 10 → wob (p) = 131 ∧ wix (p) = p := by decide +kernel
theorem wm_0 {σ : ex_S} {p : Nat} (h : p < 10) : σ 131 p = wim σ (p) := by
  unfold wim
  rw [(wo_0 p h).1, (wo_0 p h).2]
theorem wo_10 : ∀ p, p < 10 → wob (10 + p) = 132 ∧ wix (10 + p) = p := by decide +kernel
theorem wm_10 {σ : ex_S} {p : Nat} (h : p < 10) : σ 132 p = wim σ (10 + p) := by
  unfold wim
  rw [(wo_10 p h).1, (wo_10 p h).2]
theorem wo_20 : ∀ p, p < 10 → wob (20 + p) = 133 ∧ wix (20 + p) = p := by decide +kernel
theorem wm_20 {σ : ex_S} {p : Nat} (h : p < 10) : σ 133 p = wim σ (20 + p) := by
  unfold wim
  rw [(wo_20 p h).1, (wo_20 p h).2]
theorem wo_30 : ∀ p, p < 10 → wob (30 + p) = 134 ∧ wix (30 + p) = p := by decide +kernel
theorem wm_30 {σ : ex_S} {p : Nat} (h : p < 10) : σ 134 p = wim σ (30 + p) := by
  unfold wim
  rw [(wo_30 p h).1, (wo_30 p h).2]
theorem wo_40 : ∀ p, p < 10 → wob (40 + p) = 135 ∧ wix (40 + p) = p := by decide +kernel
theorem wm_40 {σ : ex_S} {p : Nat} (h : p < 10) : σ 135 p = wim σ (40 + p) := by
  unfold wim
  rw [(wo_40 p h).1, (wo_40 p h).2]
theorem wo_50 : ∀ p, p < 10 → wob (50 + p) = 144 ∧ wix (50 + p) = p := by decide +kernel
theorem wm_50 {σ : ex_S} {p : Nat} (h : p < 10) : σ 144 p = wim σ (50 + p) := by
  unfold wim
  rw [(wo_50 p h).1, (wo_50 p h).2]
theorem wo_60 : ∀ p, p < 10 → wob (60 + p) = 145 ∧ wix (60 + p) = p := by decide +kernel
theorem wm_60 {σ : ex_S} {p : Nat} (h : p < 10) : σ 145 p = wim σ (60 + p) := by
  unfold wim
  rw [(wo_60 p h).1, (wo_60 p h).2]
theorem wo_70 : ∀ p, p < 50 → wob (70 + p) = 136 ∧ wix (70 + p) = p := by decide +kernel
theorem wm_70 {σ : ex_S} {p : Nat} (h : p < 50) : σ 136 p = wim σ (70 + p) := by
  unfold wim
  rw [(wo_70 p h).1, (wo_70 p h).2]
theorem wo_120 : ∀ p, p < 40 → wob (120 + p) = 137 ∧ wix (120 + p) = p := by decide +kernel
theorem wm_120 {σ : ex_S} {p : Nat} (h : p < 40) : σ 137 p = wim σ (120 + p) := by
  unfold wim
  rw [(wo_120 p h).1, (wo_120 p h).2]
theorem wo_160 : ∀ p, p < 5 → wob (160 + p) = 138 ∧ wix (160 + p) = p := by decide +kernel
theorem wm_160 {σ : ex_S} {p : Nat} (h : p < 5) : σ 138 p = wim σ (160 + p) := by
  unfold wim
  rw [(wo_160 p h).1, (wo_160 p h).2]
theorem wo_165 : ∀ p, p < 5 → wob (165 + p) = 139 ∧ wix (165 + p) = p := by decide +kernel
theorem wm_165 {σ : ex_S} {p : Nat} (h : p < 5) : σ 139 p = wim σ (165 + p) := by
  unfold wim
  rw [(wo_165 p h).1, (wo_165 p h).2]
theorem wo_170 : ∀ p, p < 5 → wob (170 + p) = 142 ∧ wix (170 + p) = p := by decide +kernel
theorem wm_170 {σ : ex_S} {p : Nat} (h : p < 5) : σ 142 p = wim σ (170 + p) := by
  unfold wim
  rw [(wo_170 p h).1, (wo_170 p h).2]
theorem wo_175 : ∀ p, p < 5 → wob (175 + p) = 143 ∧ wix (175 + p) = p := by decide +kernel
theorem wm_175 {σ : ex_S} {p : Nat} (h : p < 5) : σ 143 p = wim σ (175 + p) := by
  unfold wim
  rw [(wo_175 p h).1, (wo_175 p h).2]
theorem wo_180 : ∀ p, p < 8 → wob (180 + p) = 146 ∧ wix (180 + p) = p := by decide +kernel
theorem wm_180 {σ : ex_S} {p : Nat} (h : p < 8) : σ 146 p = wim σ (180 + p) := by
  unfold wim
  rw [(wo_180 p h).1, (wo_180 p h).2]
theorem wo_188 : ∀ p, p < 8 → wob (188 + p) = 147 ∧ wix (188 + p) = p := by decide +kernel
theorem wm_188 {σ : ex_S} {p : Nat} (h : p < 8) : σ 147 p = wim σ (188 + p) := by
  unfold wim
  rw [(wo_188 p h).1, (wo_188 p h).2]
theorem we_0 {σ σ1 : ex_S} (e : ∀ q, q < 202 → wim σ1 q = wim σ q) {p : Nat} (h : p < 10) : σ1 131 p = σ 131 p := (wm_0 h).trans ((e _ (by omega)).trans (wm_0 h).symm)
theorem we_10 {σ σ1 : ex_S} (e : ∀ q, q < 202 → wim σ1 q = wim σ q) {p : Nat} (h : p < 10) : σ1 132 p = σ 132 p := (wm_10 h).trans ((e _ (by omega)).trans (wm_10 h).symm)
theorem we_20 {σ σ1 : ex_S} (e : ∀ q, q < 202 → wim σ1 q = wim σ q) {p : Nat} (h : p < 10) : σ1 133 p = σ 133 p := (wm_20 h).trans ((e _ (by omega)).trans (wm_20 h).symm)
theorem we_30 {σ σ1 : ex_S} (e : ∀ q, q < 202 → wim σ1 q = wim σ q) {p : Nat} (h : p < 10) : σ1 134 p = σ 134 p := (wm_30 h).trans ((e _ (by omega)).trans (wm_30 h).symm)
theorem we_40 {σ σ1 : ex_S} (e : ∀ q, q < 202 → wim σ1 q = wim σ q) {p : Nat} (h : p < 10) : σ1 135 p = σ 135 p := (wm_40 h).trans ((e _ (by omega)).trans (wm_40 h).symm)
theorem we_50 {σ σ1 : ex_S} (e : ∀ q, q < 202 → wim σ1 q = wim σ q) {p : Nat} (h : p < 10) : σ1 144 p = σ 144 p := (wm_50 h).trans ((e _ (by omega)).trans (wm_50 h).symm)
theorem we_60 {σ σ1 : ex_S} (e : ∀ q, q < 202 → wim σ1 q = wim σ q) {p : Nat} (h : p < 10) : σ1 145 p = σ 145 p := (wm_60 h).trans ((e _ (by omega)).trans (wm_60 h).symm)
theorem we_70 {σ σ1 : ex_S} (e : ∀ q, q < 202 → wim σ1 q = wim σ q) {p : Nat} (h : p < 50) : σ1 136 p = σ 136 p := (wm_70 h).trans ((e _ (by omega)).trans (wm_70 h).symm)
theorem we_120 {σ σ1 : ex_S} (e : ∀ q, q < 202 → wim σ1 q = wim σ q) {p : Nat} (h : p < 40) : σ1 137 p = σ 137 p := (wm_120 h).trans ((e _ (by omega)).trans (wm_120 h).symm)
theorem we_160 {σ σ1 : ex_S} (e : ∀ q, q < 202 → wim σ1 q = wim σ q) {p : Nat} (h : p < 5) : σ1 138 p = σ 138 p := (wm_160 h).trans ((e _ (by omega)).trans (wm_160 h).symm)
theorem we_165 {σ σ1 : ex_S} (e : ∀ q, q < 202 → wim σ1 q = wim σ q) {p : Nat} (h : p < 5) : σ1 139 p = σ 139 p := (wm_165 h).trans ((e _ (by omega)).trans (wm_165 h).symm)
theorem we_170 {σ σ1 : ex_S} (e : ∀ q, q < 202 → wim σ1 q = wim σ q) {p : Nat} (h : p < 5) : σ1 142 p = σ 142 p := (wm_170 h).trans ((e _ (by omega)).trans (wm_170 h).symm)
theorem we_175 {σ σ1 : ex_S} (e : ∀ q, q < 202 → wim σ1 q = wim σ q) {p : Nat} (h : p < 5) : σ1 143 p = σ 143 p := (wm_175 h).trans ((e _ (by omega)).trans (wm_175 h).symm)
theorem we_180 {σ σ1 : ex_S} (e : ∀ q, q < 202 → wim σ1 q = wim σ q) {p : Nat} (h : p < 8) : σ1 146 p = σ 146 p := (wm_180 h).trans ((e _ (by omega)).trans (wm_180 h).symm)
theorem we_188 {σ σ1 : ex_S} (e : ∀ q, q < 202 → wim σ1 q = wim σ q) {p : Nat} (h : p < 8) : σ1 147 p = σ 147 p := (wm_188 h).trans ((e _ (by omega)).trans (wm_188 h).symm)
theorem wf_196 : wob 196 = 127 ∧ wix 196 = 5 := by decide +kernel
theorem wf_197 : wob 197 = 127 ∧ wix 197 = 6 := by decide +kernel
theorem wf_198 : wob 198 = 127 ∧ wix 198 = 7 := by decide +kernel
theorem wf_199 : wob 199 = 127 ∧ wix 199 = 22 := by decide +kernel
theorem wf_200 : wob 200 = 127 ∧ wix 200 = 25 := by decide +kernel
theorem wf_201 : wob 201 = 127 ∧ wix 201 = 28 := by decide +kernel
theorem NR.wim {σ σ' : ex_S} {S : ns_T} (hV : VS S) (h : NR σ S) (e : ∀ q, q < 202 → wim σ' q = wim σ q) : NR σ' S := by
  have hn := hV.1
  have hd := hV.2.1
  obtain ⟨n1, n2, n3, n4, n5⟩ := h
  have f5 : σ' 127 5 = σ 127 5 := e 196 (by decide)
  have f6 : σ' 127 6 = σ 127 6 := e 197 (by decide)
  have f7 : σ' 127 7 = σ 127 7 := e 198 (by decide)
  refine ⟨by rw [f5]; exact n1, by rw [f6]; exact n2, by rw [f7]; exact n3, fun j hj => ?_, fun d hd' => ?_⟩
  · obtain ⟨a1, a2, a3, a4, a5, a6, a7⟩ := n4 j hj
    rw [we_0 e (show j < 10 by omega), we_10 e (show j < 10 by omega), we_20 e (show j < 10 by omega), we_30 e (show j < 10 by omega), we_40 e (show j < 10 by omega)]
    exact ⟨a1, a2, a3, a4, a5, fun c hc => by rw [we_70 e (show 5 * j + c < 50 by omega)]; exact a6 c hc, fun q hq => by rw [we_120 e (show 4 * j + q < 40 by omega)]; exact a7 q hq⟩
  · rw [we_160 e (show d < 5 by omega), we_165 e (show d < 5 by omega)]
    exact n5 d hd'
theorem PH.wim1 {σ σ' : ex_S} {S : ns_T} (hU : PSV S) (h : PH σ 22 142 S 10) (e : ∀ q, q < 202 → wim σ' q = wim σ q) : PH σ' 22 142 S 10 := by
  have hz := hU.1
  have f : σ' 127 22 = σ 127 22 := e 199 (by decide)
  refine ⟨by rw [f]; exact h.1, fun i hi => ?_⟩
  rw [we_170 e (show i < 5 by omega), we_175 e (show i < 5 by omega)]
  exact h.2 i hi
theorem PH.wim2 {σ σ' : ex_S} {S : ns_T} (hU : PSV S) (h : PH σ 25 144 S 13) (e : ∀ q, q < 202 → wim σ' q = wim σ q) : PH σ' 25 144 S 13 := by
  have hz := hU.2.1
  have f : σ' 127 25 = σ 127 25 := e 200 (by decide)
  refine ⟨by rw [f]; exact h.1, fun i hi => ?_⟩
  rw [we_50 e (show i < 10 by omega), we_60 e (show i < 10 by omega)]
  exact h.2 i hi
theorem PH.wim3 {σ σ' : ex_S} {S : ns_T} (hU : PSV S) (h : PH σ 28 146 S 16) (e : ∀ q, q < 202 → wim σ' q = wim σ q) : PH σ' 28 146 S 16 := by
  have hz := hU.2.2.1
  have f : σ' 127 28 = σ 127 28 := e 201 (by decide)
  refine ⟨by rw [f]; exact h.1, fun i hi => ?_⟩
  rw [we_180 e (show i < 8 by omega), we_188 e (show i < 8 by omega)]
  exact h.2 i hi

set_option maxRecDepth 100000 in
theorem c11_keep {c : Nat} (hc : TT[c]? = some (.inr (0, 210, []))) (hc2 : c = 148 ∨ c = 149) {σ : ex_S} {μ : ex_L} : Cv 3 yX11_keep cX11_keep 3 none [.ref 127, .ref c] TT σ μ (fun σ' μ' => (∀ i, i ≠ c → σ' i = σ i) ∧ (∀ q, q < 202 → σ' c q = wim σ q) ∧ μ' = μ) := by
  refine Cl_of (by decide +kernel) (Nat.le_of_ble_eq_true rfl) ?_
  show Ev RX11 cX11_keep 3 3 0 0 "keep" none ev_ext _ _ 0 0 0 [(0, .ref 127), (1, .ref c)] [] TT σ μ
  have loop214 : ∀ (m p : Nat) (σ1 : ex_S), p + m = 8 → (∀ i, i ≠ c → σ1 i = σ i) → (∀ q, q < 180 ∨ (q < 188 ∧ q < 180 + p) ∨ (q < 196 ∧ 188 ≤ q ∧ q < 188 + p) → σ1 c q = wim σ q) → Ev RX11 cX11_keep 3 3 0 0 "keep" none ev_ext TT.length (fun v9 T9 σ9 μ9 => T9 = TT ∧ v9 = none ∧ (fun σ' μ' => (∀ i, i ≠ c → σ' i = σ i) ∧ (∀ q, q < 202 → σ' c q = wim σ q) ∧ μ' = μ) σ9 μ9) 0 0 214 [(0, .ref 127), (1, .ref c), (2, .int (nI p))] [] TT σ1 μ := by
    intro m
    induction m with
    | zero =>
      intro p σ1 hp f1 f2
      obtain rfl : p = 8 := by omega
      refine e_iload_n dX11_keep_214 rfl 2 rfl ?_
      refine e_bipush (v := 8) dX11_keep_215 rfl ?_
      refine e_icmp_ge (t := 252) dX11_keep_217 (by decide) (fun h217 => ?_) (fun h217 => ?_)
      · skip
        refine e_aload_n dX11_keep_252 rfl 1 rfl ?_
        refine e_sipush (v := 196) dX11_keep_253 rfl ?_
        refine e_aload_n dX11_keep_256 rfl 0 rfl ?_
        refine e_getI dX11_keep_257 lkX11_95 tt_127 rfl ?_
        refine e_iast dX11_keep_260 hc (i_in (j := 196) rfl (by decide) (by decide)) ?_
        refine e_aload_n dX11_keep_261 rfl 1 rfl ?_
        refine e_sipush (v := 197) dX11_keep_262 rfl ?_
        refine e_aload_n dX11_keep_265 rfl 0 rfl ?_
        refine e_getI dX11_keep_266 lkX11_134 tt_127 rfl ?_
        refine e_iast dX11_keep_269 hc (i_in (j := 197) rfl (by decide) (by decide)) ?_
        refine e_aload_n dX11_keep_270 rfl 1 rfl ?_
        refine e_sipush (v := 198) dX11_keep_271 rfl ?_
        refine e_aload_n dX11_keep_274 rfl 0 rfl ?_
        refine e_getI dX11_keep_275 lkX11_162 tt_127 rfl ?_
        refine e_iast dX11_keep_278 hc (i_in (j := 198) rfl (by decide) (by decide)) ?_
        refine e_aload_n dX11_keep_279 rfl 1 rfl ?_
        refine e_sipush (v := 199) dX11_keep_280 rfl ?_
        refine e_aload_n dX11_keep_283 rfl 0 rfl ?_
        refine e_getI dX11_keep_284 lkX11_245 tt_127 rfl ?_
        refine e_iast dX11_keep_287 hc (i_in (j := 199) rfl (by decide) (by decide)) ?_
        refine e_aload_n dX11_keep_288 rfl 1 rfl ?_
        refine e_sipush (v := 200) dX11_keep_289 rfl ?_
        refine e_aload_n dX11_keep_292 rfl 0 rfl ?_
        refine e_getI dX11_keep_293 lkX11_276 tt_127 rfl ?_
        refine e_iast dX11_keep_296 hc (i_in (j := 200) rfl (by decide) (by decide)) ?_
        refine e_aload_n dX11_keep_297 rfl 1 rfl ?_
        refine e_sipush (v := 201) dX11_keep_298 rfl ?_
        refine e_aload_n dX11_keep_301 rfl 0 rfl ?_
        refine e_getI dX11_keep_302 lkX11_286 tt_127 rfl ?_
        refine e_iast dX11_keep_305 hc (i_in (j := 201) rfl (by decide) (by decide)) ?_
        refine e_retv dX11_keep_306 (Nat.le_refl _) (Nat.le_refl _) ?_
        have h127 : (127 : Nat) ≠ c := by omega
        rw [show (196 : Int32).toNatClampNeg = 196 from by decide]
        rw [show (197 : Int32).toNatClampNeg = 197 from by decide]
        rw [show (198 : Int32).toNatClampNeg = 198 from by decide]
        rw [show (199 : Int32).toNatClampNeg = 199 from by decide]
        rw [show (200 : Int32).toNatClampNeg = 200 from by decide]
        rw [show (201 : Int32).toNatClampNeg = 201 from by decide]
        exact ⟨fun i hi => by rw [sup_obj hi, sup_obj hi, sup_obj hi, sup_obj hi, sup_obj hi, sup_obj hi]; exact f1 i hi, fun q hq => (dn_or (q0 := 201) (dn_or (q0 := 200) (dn_or (q0 := 199) (dn_or (q0 := 198) (dn_or (q0 := 197) (dn_or (q0 := 196) f2 (by rw [f1 127 h127]; exact (show σ 127 5 = wim σ 196 from rfl))) (by rw [sup_obj h127, f1 127 h127]; exact (show σ 127 6 = wim σ 197 from rfl))) (by rw [sup_obj h127, sup_obj h127, f1 127 h127]; exact (show σ 127 7 = wim σ 198 from rfl))) (by rw [sup_obj h127, sup_obj h127, sup_obj h127, f1 127 h127]; exact (show σ 127 22 = wim σ 199 from rfl))) (by rw [sup_obj h127, sup_obj h127, sup_obj h127, sup_obj h127, f1 127 h127]; exact (show σ 127 25 = wim σ 200 from rfl))) (by rw [sup_obj h127, sup_obj h127, sup_obj h127, sup_obj h127, sup_obj h127, f1 127 h127]; exact (show σ 127 28 = wim σ 201 from rfl))) q (by omega), rfl⟩
      · skip
        exact absurd (show nI 8 ≤ nI 8 from (i_le (by omega) (by omega)).mpr (by omega)) h217
    | succ m ih =>
      intro p σ1 hp f1 f2
      refine e_iload_n dX11_keep_214 rfl 2 rfl ?_
      refine e_bipush (v := 8) dX11_keep_215 rfl ?_
      refine e_icmp_ge (t := 252) dX11_keep_217 (by decide) (fun h217 => ?_) (fun h217 => ?_)
      · skip
        exact absurd ((i_le (by omega) (by omega)).mp (show nI 8 ≤ nI p from h217)) (by omega)
      · skip
        refine e_aload_n dX11_keep_220 rfl 1 rfl ?_
        refine e_sipush (v := 180) dX11_keep_221 rfl ?_
        refine e_iload_n dX11_keep_224 rfl 2 rfl ?_
        refine e_iadd dX11_keep_225 ?_
        rw [show (180 : Int32) = nI 180 from rfl, i_add]
        refine e_aload_n dX11_keep_226 rfl 0 rfl ?_
        refine e_getR dX11_keep_227 lkX11_66 tt_127 rfl ?_
        refine e_iload_n dX11_keep_230 rfl 2 rfl ?_
        refine e_iald dX11_keep_231 tt_146 (vp_in_nI (by omega) (by decide)) ?_
        refine e_iast dX11_keep_232 hc (vp_in_nI (by omega) (by decide)) ?_
        refine e_aload_n dX11_keep_233 rfl 1 rfl ?_
        refine e_sipush (v := 188) dX11_keep_234 rfl ?_
        refine e_iload_n dX11_keep_237 rfl 2 rfl ?_
        refine e_iadd dX11_keep_238 ?_
        rw [show (188 : Int32) = nI 188 from rfl, i_add]
        refine e_aload_n dX11_keep_239 rfl 0 rfl ?_
        refine e_getR dX11_keep_240 lkX11_69 tt_127 rfl ?_
        refine e_iload_n dX11_keep_243 rfl 2 rfl ?_
        refine e_iald dX11_keep_244 tt_147 (vp_in_nI (by omega) (by decide)) ?_
        refine e_iast dX11_keep_245 hc (vp_in_nI (by omega) (by decide)) ?_
        refine e_iinc (nI (p + 1)) [(0, .ref 127), (1, .ref c), (2, .int (nI (p + 1)))] dX11_keep_246 2 rfl (nI_1 p) (by decide) rfl ?_
        refine e_goto (t := 214) dX11_keep_249 (by decide) ?_
        rw [i_cl (show p < 2 ^ 31 by omega), i_cl (show 180 + p < 2 ^ 31 by omega), i_cl (show 188 + p < 2 ^ 31 by omega)]
        exact ih (p + 1) _ (by omega) (fun i hi => by rw [sup_obj hi, sup_obj hi]; exact f1 i hi) (fun q hq => (dn_or (q0 := 188 + p) (dn_or (q0 := 180 + p) f2 (by rw [f1 146 (by omega)]; exact wm_180 (by omega))) (by rw [sup_obj (show (147 : Nat) ≠ c by omega), f1 147 (by omega)]; exact wm_188 (by omega))) q (by omega))
  have loop149 : ∀ (m p : Nat) (σ1 : ex_S), p + m = 5 → (∀ i, i ≠ c → σ1 i = σ i) → (∀ q, q < 160 ∨ (q < 180 ∧ 160 ≤ q ∧ q % 5 < p) → σ1 c q = wim σ q) → Ev RX11 cX11_keep 3 3 0 0 "keep" none ev_ext TT.length (fun v9 T9 σ9 μ9 => T9 = TT ∧ v9 = none ∧ (fun σ' μ' => (∀ i, i ≠ c → σ' i = σ i) ∧ (∀ q, q < 202 → σ' c q = wim σ q) ∧ μ' = μ) σ9 μ9) 0 0 149 [(0, .ref 127), (1, .ref c), (2, .int (nI p))] [] TT σ1 μ := by
    intro m
    induction m with
    | zero =>
      intro p σ1 hp f1 f2
      obtain rfl : p = 5 := by omega
      refine e_iload_n dX11_keep_149 rfl 2 rfl ?_
      refine e_iconst (v := 5) dX11_keep_150 rfl ?_
      refine e_icmp_ge (t := 212) dX11_keep_151 (by decide) (fun h151 => ?_) (fun h151 => ?_)
      · skip
        refine e_iconst (v := 0) dX11_keep_212 rfl ?_
        refine e_istore_n [(0, .ref 127), (1, .ref c), (2, .int (nI 0))] dX11_keep_213 rfl (by decide) rfl ?_
        exact loop214 8 0 σ1 rfl f1 (fun q hq => f2 q (by omega))
      · skip
        exact absurd (show nI 5 ≤ nI 5 from (i_le (by omega) (by omega)).mpr (by omega)) h151
    | succ m ih =>
      intro p σ1 hp f1 f2
      refine e_iload_n dX11_keep_149 rfl 2 rfl ?_
      refine e_iconst (v := 5) dX11_keep_150 rfl ?_
      refine e_icmp_ge (t := 212) dX11_keep_151 (by decide) (fun h151 => ?_) (fun h151 => ?_)
      · skip
        exact absurd ((i_le (by omega) (by omega)).mp (show nI 5 ≤ nI p from h151)) (by omega)
      · skip
        refine e_aload_n dX11_keep_154 rfl 1 rfl ?_
        refine e_sipush (v := 160) dX11_keep_155 rfl ?_
        refine e_iload_n dX11_keep_158 rfl 2 rfl ?_
        refine e_iadd dX11_keep_159 ?_
        rw [show (160 : Int32) = nI 160 from rfl, i_add]
        refine e_aload_n dX11_keep_160 rfl 0 rfl ?_
        refine e_getR dX11_keep_161 lkX11_42 tt_127 rfl ?_
        refine e_iload_n dX11_keep_164 rfl 2 rfl ?_
        refine e_iald dX11_keep_165 tt_138 (vp_in_nI (by omega) (by decide)) ?_
        refine e_iast dX11_keep_166 hc (vp_in_nI (by omega) (by decide)) ?_
        refine e_aload_n dX11_keep_167 rfl 1 rfl ?_
        refine e_sipush (v := 165) dX11_keep_168 rfl ?_
        refine e_iload_n dX11_keep_171 rfl 2 rfl ?_
        refine e_iadd dX11_keep_172 ?_
        rw [show (165 : Int32) = nI 165 from rfl, i_add]
        refine e_aload_n dX11_keep_173 rfl 0 rfl ?_
        refine e_getR dX11_keep_174 lkX11_45 tt_127 rfl ?_
        refine e_iload_n dX11_keep_177 rfl 2 rfl ?_
        refine e_iald dX11_keep_178 tt_139 (vp_in_nI (by omega) (by decide)) ?_
        refine e_iast dX11_keep_179 hc (vp_in_nI (by omega) (by decide)) ?_
        refine e_aload_n dX11_keep_180 rfl 1 rfl ?_
        refine e_sipush (v := 170) dX11_keep_181 rfl ?_
        refine e_iload_n dX11_keep_184 rfl 2 rfl ?_
        refine e_iadd dX11_keep_185 ?_
        rw [show (170 : Int32) = nI 170 from rfl, i_add]
        refine e_aload_n dX11_keep_186 rfl 0 rfl ?_
        refine e_getR dX11_keep_187 lkX11_54 tt_127 rfl ?_
        refine e_iload_n dX11_keep_190 rfl 2 rfl ?_
        refine e_iald dX11_keep_191 tt_142 (vp_in_nI (by omega) (by decide)) ?_
        refine e_iast dX11_keep_192 hc (vp_in_nI (by omega) (by decide)) ?_
        refine e_aload_n dX11_keep_193 rfl 1 rfl ?_
        refine e_sipush (v := 175) dX11_keep_194 rfl ?_
        refine e_iload_n dX11_keep_197 rfl 2 rfl ?_
        refine e_iadd dX11_keep_198 ?_
        rw [show (175 : Int32) = nI 175 from rfl, i_add]
        refine e_aload_n dX11_keep_199 rfl 0 rfl ?_
        refine e_getR dX11_keep_200 lkX11_57 tt_127 rfl ?_
        refine e_iload_n dX11_keep_203 rfl 2 rfl ?_
        refine e_iald dX11_keep_204 tt_143 (vp_in_nI (by omega) (by decide)) ?_
        refine e_iast dX11_keep_205 hc (vp_in_nI (by omega) (by decide)) ?_
        refine e_iinc (nI (p + 1)) [(0, .ref 127), (1, .ref c), (2, .int (nI (p + 1)))] dX11_keep_206 2 rfl (nI_1 p) (by decide) rfl ?_
        refine e_goto (t := 149) dX11_keep_209 (by decide) ?_
        rw [i_cl (show p < 2 ^ 31 by omega), i_cl (show 160 + p < 2 ^ 31 by omega), i_cl (show 165 + p < 2 ^ 31 by omega), i_cl (show 170 + p < 2 ^ 31 by omega), i_cl (show 175 + p < 2 ^ 31 by omega)]
        exact ih (p + 1) _ (by omega) (fun i hi => by rw [sup_obj hi, sup_obj hi, sup_obj hi, sup_obj hi]; exact f1 i hi) (fun q hq => (dn_or (q0 := 175 + p) (dn_or (q0 := 170 + p) (dn_or (q0 := 165 + p) (dn_or (q0 := 160 + p) f2 (by rw [f1 138 (by omega)]; exact wm_160 (by omega))) (by rw [sup_obj (show (139 : Nat) ≠ c by omega), f1 139 (by omega)]; exact wm_165 (by omega))) (by rw [sup_obj (show (142 : Nat) ≠ c by omega), sup_obj (show (142 : Nat) ≠ c by omega), f1 142 (by omega)]; exact wm_170 (by omega))) (by rw [sup_obj (show (143 : Nat) ≠ c by omega), sup_obj (show (143 : Nat) ≠ c by omega), sup_obj (show (143 : Nat) ≠ c by omega), f1 143 (by omega)]; exact wm_175 (by omega))) q (by omega))
  have loop123 : ∀ (m p : Nat) (σ1 : ex_S), p + m = 40 → (∀ i, i ≠ c → σ1 i = σ i) → (∀ q, q < 120 + p → σ1 c q = wim σ q) → Ev RX11 cX11_keep 3 3 0 0 "keep" none ev_ext TT.length (fun v9 T9 σ9 μ9 => T9 = TT ∧ v9 = none ∧ (fun σ' μ' => (∀ i, i ≠ c → σ' i = σ i) ∧ (∀ q, q < 202 → σ' c q = wim σ q) ∧ μ' = μ) σ9 μ9) 0 0 123 [(0, .ref 127), (1, .ref c), (2, .int (nI p))] [] TT σ1 μ := by
    intro m
    induction m with
    | zero =>
      intro p σ1 hp f1 f2
      obtain rfl : p = 40 := by omega
      refine e_iload_n dX11_keep_123 rfl 2 rfl ?_
      refine e_bipush (v := 40) dX11_keep_124 rfl ?_
      refine e_icmp_ge (t := 147) dX11_keep_126 (by decide) (fun h126 => ?_) (fun h126 => ?_)
      · skip
        refine e_iconst (v := 0) dX11_keep_147 rfl ?_
        refine e_istore_n [(0, .ref 127), (1, .ref c), (2, .int (nI 0))] dX11_keep_148 rfl (by decide) rfl ?_
        exact loop149 5 0 σ1 rfl f1 (fun q hq => f2 q (by omega))
      · skip
        exact absurd (show nI 40 ≤ nI 40 from (i_le (by omega) (by omega)).mpr (by omega)) h126
    | succ m ih =>
      intro p σ1 hp f1 f2
      refine e_iload_n dX11_keep_123 rfl 2 rfl ?_
      refine e_bipush (v := 40) dX11_keep_124 rfl ?_
      refine e_icmp_ge (t := 147) dX11_keep_126 (by decide) (fun h126 => ?_) (fun h126 => ?_)
      · skip
        exact absurd ((i_le (by omega) (by omega)).mp (show nI 40 ≤ nI p from h126)) (by omega)
      · skip
        refine e_aload_n dX11_keep_129 rfl 1 rfl ?_
        refine e_bipush (v := 120) dX11_keep_130 rfl ?_
        refine e_iload_n dX11_keep_132 rfl 2 rfl ?_
        refine e_iadd dX11_keep_133 ?_
        rw [show (120 : Int32) = nI 120 from rfl, i_add]
        refine e_aload_n dX11_keep_134 rfl 0 rfl ?_
        refine e_getR dX11_keep_135 lkX11_39 tt_127 rfl ?_
        refine e_iload_n dX11_keep_138 rfl 2 rfl ?_
        refine e_iald dX11_keep_139 tt_137 (vp_in_nI (by omega) (by decide)) ?_
        refine e_iast dX11_keep_140 hc (vp_in_nI (by omega) (by decide)) ?_
        refine e_iinc (nI (p + 1)) [(0, .ref 127), (1, .ref c), (2, .int (nI (p + 1)))] dX11_keep_141 2 rfl (nI_1 p) (by decide) rfl ?_
        refine e_goto (t := 123) dX11_keep_144 (by decide) ?_
        rw [i_cl (show p < 2 ^ 31 by omega), i_cl (show 120 + p < 2 ^ 31 by omega)]
        exact ih (p + 1) _ (by omega) (fun i hi => by rw [sup_obj hi]; exact f1 i hi) (fun q hq => (dn_or (q0 := 120 + p) f2 (by rw [f1 137 (by omega)]; exact wm_120 (by omega))) q (by omega))
  have loop97 : ∀ (m p : Nat) (σ1 : ex_S), p + m = 50 → (∀ i, i ≠ c → σ1 i = σ i) → (∀ q, q < 70 + p → σ1 c q = wim σ q) → Ev RX11 cX11_keep 3 3 0 0 "keep" none ev_ext TT.length (fun v9 T9 σ9 μ9 => T9 = TT ∧ v9 = none ∧ (fun σ' μ' => (∀ i, i ≠ c → σ' i = σ i) ∧ (∀ q, q < 202 → σ' c q = wim σ q) ∧ μ' = μ) σ9 μ9) 0 0 97 [(0, .ref 127), (1, .ref c), (2, .int (nI p))] [] TT σ1 μ := by
    intro m
    induction m with
    | zero =>
      intro p σ1 hp f1 f2
      obtain rfl : p = 50 := by omega
      refine e_iload_n dX11_keep_97 rfl 2 rfl ?_
      refine e_bipush (v := 50) dX11_keep_98 rfl ?_
      refine e_icmp_ge (t := 121) dX11_keep_100 (by decide) (fun h100 => ?_) (fun h100 => ?_)
      · skip
        refine e_iconst (v := 0) dX11_keep_121 rfl ?_
        refine e_istore_n [(0, .ref 127), (1, .ref c), (2, .int (nI 0))] dX11_keep_122 rfl (by decide) rfl ?_
        exact loop123 40 0 σ1 rfl f1 (fun q hq => f2 q (by omega))
      · skip
        exact absurd (show nI 50 ≤ nI 50 from (i_le (by omega) (by omega)).mpr (by omega)) h100
    | succ m ih =>
      intro p σ1 hp f1 f2
      refine e_iload_n dX11_keep_97 rfl 2 rfl ?_
      refine e_bipush (v := 50) dX11_keep_98 rfl ?_
      refine e_icmp_ge (t := 121) dX11_keep_100 (by decide) (fun h100 => ?_) (fun h100 => ?_)
      · skip
        exact absurd ((i_le (by omega) (by omega)).mp (show nI 50 ≤ nI p from h100)) (by omega)
      · skip
        refine e_aload_n dX11_keep_103 rfl 1 rfl ?_
        refine e_bipush (v := 70) dX11_keep_104 rfl ?_
        refine e_iload_n dX11_keep_106 rfl 2 rfl ?_
        refine e_iadd dX11_keep_107 ?_
        rw [show (70 : Int32) = nI 70 from rfl, i_add]
        refine e_aload_n dX11_keep_108 rfl 0 rfl ?_
        refine e_getR dX11_keep_109 lkX11_36 tt_127 rfl ?_
        refine e_iload_n dX11_keep_112 rfl 2 rfl ?_
        refine e_iald dX11_keep_113 tt_136 (vp_in_nI (by omega) (by decide)) ?_
        refine e_iast dX11_keep_114 hc (vp_in_nI (by omega) (by decide)) ?_
        refine e_iinc (nI (p + 1)) [(0, .ref 127), (1, .ref c), (2, .int (nI (p + 1)))] dX11_keep_115 2 rfl (nI_1 p) (by decide) rfl ?_
        refine e_goto (t := 97) dX11_keep_118 (by decide) ?_
        rw [i_cl (show p < 2 ^ 31 by omega), i_cl (show 70 + p < 2 ^ 31 by omega)]
        exact ih (p + 1) _ (by omega) (fun i hi => by rw [sup_obj hi]; exact f1 i hi) (fun q hq => (dn_or (q0 := 70 + p) f2 (by rw [f1 136 (by omega)]; exact wm_70 (by omega))) q (by omega))
  have loop2 : ∀ (m p : Nat) (σ1 : ex_S), p + m = 10 → (∀ i, i ≠ c → σ1 i = σ i) → (∀ q, q < 70 ∧ q % 10 < p → σ1 c q = wim σ q) → Ev RX11 cX11_keep 3 3 0 0 "keep" none ev_ext TT.length (fun v9 T9 σ9 μ9 => T9 = TT ∧ v9 = none ∧ (fun σ' μ' => (∀ i, i ≠ c → σ' i = σ i) ∧ (∀ q, q < 202 → σ' c q = wim σ q) ∧ μ' = μ) σ9 μ9) 0 0 2 [(0, .ref 127), (1, .ref c), (2, .int (nI p))] [] TT σ1 μ := by
    intro m
    induction m with
    | zero =>
      intro p σ1 hp f1 f2
      obtain rfl : p = 10 := by omega
      refine e_iload_n dX11_keep_2 rfl 2 rfl ?_
      refine e_bipush (v := 10) dX11_keep_3 rfl ?_
      refine e_icmp_ge (t := 95) dX11_keep_5 (by decide) (fun h5 => ?_) (fun h5 => ?_)
      · skip
        refine e_iconst (v := 0) dX11_keep_95 rfl ?_
        refine e_istore_n [(0, .ref 127), (1, .ref c), (2, .int (nI 0))] dX11_keep_96 rfl (by decide) rfl ?_
        exact loop97 50 0 σ1 rfl f1 (fun q hq => f2 q (by omega))
      · skip
        exact absurd (show nI 10 ≤ nI 10 from (i_le (by omega) (by omega)).mpr (by omega)) h5
    | succ m ih =>
      intro p σ1 hp f1 f2
      refine e_iload_n dX11_keep_2 rfl 2 rfl ?_
      refine e_bipush (v := 10) dX11_keep_3 rfl ?_
      refine e_icmp_ge (t := 95) dX11_keep_5 (by decide) (fun h5 => ?_) (fun h5 => ?_)
      · skip
        exact absurd ((i_le (by omega) (by omega)).mp (show nI 10 ≤ nI p from h5)) (by omega)
      · skip
        refine e_aload_n dX11_keep_8 rfl 1 rfl ?_
        refine e_iload_n dX11_keep_9 rfl 2 rfl ?_
        refine e_aload_n dX11_keep_10 rfl 0 rfl ?_
        refine e_getR dX11_keep_11 lkX11_21 tt_127 rfl ?_
        refine e_iload_n dX11_keep_14 rfl 2 rfl ?_
        refine e_iald dX11_keep_15 tt_131 (vp_in_nI (by omega) (by decide)) ?_
        refine e_iast dX11_keep_16 hc (vp_in_nI (by omega) (by decide)) ?_
        refine e_aload_n dX11_keep_17 rfl 1 rfl ?_
        refine e_bipush (v := 10) dX11_keep_18 rfl ?_
        refine e_iload_n dX11_keep_20 rfl 2 rfl ?_
        refine e_iadd dX11_keep_21 ?_
        rw [show (10 : Int32) = nI 10 from rfl, i_add]
        refine e_aload_n dX11_keep_22 rfl 0 rfl ?_
        refine e_getR dX11_keep_23 lkX11_24 tt_127 rfl ?_
        refine e_iload_n dX11_keep_26 rfl 2 rfl ?_
        refine e_iald dX11_keep_27 tt_132 (vp_in_nI (by omega) (by decide)) ?_
        refine e_iast dX11_keep_28 hc (vp_in_nI (by omega) (by decide)) ?_
        refine e_aload_n dX11_keep_29 rfl 1 rfl ?_
        refine e_bipush (v := 20) dX11_keep_30 rfl ?_
        refine e_iload_n dX11_keep_32 rfl 2 rfl ?_
        refine e_iadd dX11_keep_33 ?_
        rw [show (20 : Int32) = nI 20 from rfl, i_add]
        refine e_aload_n dX11_keep_34 rfl 0 rfl ?_
        refine e_getR dX11_keep_35 lkX11_27 tt_127 rfl ?_
        refine e_iload_n dX11_keep_38 rfl 2 rfl ?_
        refine e_iald dX11_keep_39 tt_133 (vp_in_nI (by omega) (by decide)) ?_
        refine e_iast dX11_keep_40 hc (vp_in_nI (by omega) (by decide)) ?_
        refine e_aload_n dX11_keep_41 rfl 1 rfl ?_
        refine e_bipush (v := 30) dX11_keep_42 rfl ?_
        refine e_iload_n dX11_keep_44 rfl 2 rfl ?_
        refine e_iadd dX11_keep_45 ?_
        rw [show (30 : Int32) = nI 30 from rfl, i_add]
        refine e_aload_n dX11_keep_46 rfl 0 rfl ?_
        refine e_getR dX11_keep_47 lkX11_30 tt_127 rfl ?_
        refine e_iload_n dX11_keep_50 rfl 2 rfl ?_
        refine e_iald dX11_keep_51 tt_134 (vp_in_nI (by omega) (by decide)) ?_
        refine e_iast dX11_keep_52 hc (vp_in_nI (by omega) (by decide)) ?_
        refine e_aload_n dX11_keep_53 rfl 1 rfl ?_
        refine e_bipush (v := 40) dX11_keep_54 rfl ?_
        refine e_iload_n dX11_keep_56 rfl 2 rfl ?_
        refine e_iadd dX11_keep_57 ?_
        rw [show (40 : Int32) = nI 40 from rfl, i_add]
        refine e_aload_n dX11_keep_58 rfl 0 rfl ?_
        refine e_getR dX11_keep_59 lkX11_33 tt_127 rfl ?_
        refine e_iload_n dX11_keep_62 rfl 2 rfl ?_
        refine e_iald dX11_keep_63 tt_135 (vp_in_nI (by omega) (by decide)) ?_
        refine e_iast dX11_keep_64 hc (vp_in_nI (by omega) (by decide)) ?_
        refine e_aload_n dX11_keep_65 rfl 1 rfl ?_
        refine e_bipush (v := 50) dX11_keep_66 rfl ?_
        refine e_iload_n dX11_keep_68 rfl 2 rfl ?_
        refine e_iadd dX11_keep_69 ?_
        rw [show (50 : Int32) = nI 50 from rfl, i_add]
        refine e_aload_n dX11_keep_70 rfl 0 rfl ?_
        refine e_getR dX11_keep_71 lkX11_60 tt_127 rfl ?_
        refine e_iload_n dX11_keep_74 rfl 2 rfl ?_
        refine e_iald dX11_keep_75 tt_144 (vp_in_nI (by omega) (by decide)) ?_
        refine e_iast dX11_keep_76 hc (vp_in_nI (by omega) (by decide)) ?_
        refine e_aload_n dX11_keep_77 rfl 1 rfl ?_
        refine e_bipush (v := 60) dX11_keep_78 rfl ?_
        refine e_iload_n dX11_keep_80 rfl 2 rfl ?_
        refine e_iadd dX11_keep_81 ?_
        rw [show (60 : Int32) = nI 60 from rfl, i_add]
        refine e_aload_n dX11_keep_82 rfl 0 rfl ?_
        refine e_getR dX11_keep_83 lkX11_63 tt_127 rfl ?_
        refine e_iload_n dX11_keep_86 rfl 2 rfl ?_
        refine e_iald dX11_keep_87 tt_145 (vp_in_nI (by omega) (by decide)) ?_
        refine e_iast dX11_keep_88 hc (vp_in_nI (by omega) (by decide)) ?_
        refine e_iinc (nI (p + 1)) [(0, .ref 127), (1, .ref c), (2, .int (nI (p + 1)))] dX11_keep_89 2 rfl (nI_1 p) (by decide) rfl ?_
        refine e_goto (t := 2) dX11_keep_92 (by decide) ?_
        rw [i_cl (show p < 2 ^ 31 by omega), i_cl (show 10 + p < 2 ^ 31 by omega), i_cl (show 20 + p < 2 ^ 31 by omega), i_cl (show 30 + p < 2 ^ 31 by omega), i_cl (show 40 + p < 2 ^ 31 by omega), i_cl (show 50 + p < 2 ^ 31 by omega), i_cl (show 60 + p < 2 ^ 31 by omega)]
        exact ih (p + 1) _ (by omega) (fun i hi => by rw [sup_obj hi, sup_obj hi, sup_obj hi, sup_obj hi, sup_obj hi, sup_obj hi, sup_obj hi]; exact f1 i hi) (fun q hq => (dn_or (q0 := 60 + p) (dn_or (q0 := 50 + p) (dn_or (q0 := 40 + p) (dn_or (q0 := 30 + p) (dn_or (q0 := 20 + p) (dn_or (q0 := 10 + p) (dn_or (q0 := p) f2 (by rw [f1 131 (by omega)]; exact wm_0 (by omega))) (by rw [sup_obj (show (132 : Nat) ≠ c by omega), f1 132 (by omega)]; exact wm_10 (by omega))) (by rw [sup_obj (show (133 : Nat) ≠ c by omega), sup_obj (show (133 : Nat) ≠ c by omega), f1 133 (by omega)]; exact wm_20 (by omega))) (by rw [sup_obj (show (134 : Nat) ≠ c by omega), sup_obj (show (134 : Nat) ≠ c by omega), sup_obj (show (134 : Nat) ≠ c by omega), f1 134 (by omega)]; exact wm_30 (by omega))) (by rw [sup_obj (show (135 : Nat) ≠ c by omega), sup_obj (show (135 : Nat) ≠ c by omega), sup_obj (show (135 : Nat) ≠ c by omega), sup_obj (show (135 : Nat) ≠ c by omega), f1 135 (by omega)]; exact wm_40 (by omega))) (by rw [sup_obj (show (144 : Nat) ≠ c by omega), sup_obj (show (144 : Nat) ≠ c by omega), sup_obj (show (144 : Nat) ≠ c by omega), sup_obj (show (144 : Nat) ≠ c by omega), sup_obj (show (144 : Nat) ≠ c by omega), f1 144 (by omega)]; exact wm_50 (by omega))) (by rw [sup_obj (show (145 : Nat) ≠ c by omega), sup_obj (show (145 : Nat) ≠ c by omega), sup_obj (show (145 : Nat) ≠ c by omega), sup_obj (show (145 : Nat) ≠ c by omega), sup_obj (show (145 : Nat) ≠ c by omega), sup_obj (show (145 : Nat) ≠ c by omega), f1 145 (by omega)]; exact wm_60 (by omega))) q (by omega))
  refine e_iconst (v := 0) dX11_keep_0 rfl ?_
  refine e_istore_n [(0, .ref 127), (1, .ref c), (2, .int (nI 0))] dX11_keep_1 rfl (by decide) rfl ?_
  exact loop2 10 0 σ rfl (fun _ _ => rfl) (fun q hq => absurd hq.2 (by omega))

set_option maxRecDepth 100000 in
theorem c11_again {c : Nat} (hc : TT[c]? = some (.inr (0, 210, []))) (hc2 : c = 148 ∨ c = 149) {σ : ex_S} {μ : ex_L} : Cv 3 yX11_again cX11_again 3 none [.ref 127, .ref c] TT σ μ (fun σ' μ' => Wfr σ σ' ∧ (∀ q, q < 202 → wim σ' q = σ c q) ∧ μ' = μ) := by
  refine Cl_of (by decide +kernel) (Nat.le_of_ble_eq_true rfl) ?_
  show Ev RX11 cX11_again 3 3 0 0 "again" none ev_ext _ _ 0 0 0 [(0, .ref 127), (1, .ref c)] [] TT σ μ
  have loop214 : ∀ (m p : Nat) (σ1 : ex_S), p + m = 8 → Wfr σ σ1 → (∀ q, q < 202 → (q < 180 ∨ (q < 188 ∧ q < 180 + p) ∨ (q < 196 ∧ 188 ≤ q ∧ q < 188 + p)) → wim σ1 q = σ c q) → Ev RX11 cX11_again 3 3 0 0 "again" none ev_ext TT.length (fun v9 T9 σ9 μ9 => T9 = TT ∧ v9 = none ∧ (fun σ' μ' => Wfr σ σ' ∧ (∀ q, q < 202 → wim σ' q = σ c q) ∧ μ' = μ) σ9 μ9) 0 0 214 [(0, .ref 127), (1, .ref c), (2, .int (nI p))] [] TT σ1 μ := by
    intro m
    induction m with
    | zero =>
      intro p σ1 hp f1 f2
      obtain rfl : p = 8 := by omega
      refine e_iload_n dX11_again_214 rfl 2 rfl ?_
      refine e_bipush (v := 8) dX11_again_215 rfl ?_
      refine e_icmp_ge (t := 252) dX11_again_217 (by decide) (fun h217 => ?_) (fun h217 => ?_)
      · skip
        refine e_aload_n dX11_again_252 rfl 0 rfl ?_
        refine e_aload_n dX11_again_253 rfl 1 rfl ?_
        refine e_sipush (v := 196) dX11_again_254 rfl ?_
        refine e_iald dX11_again_257 hc (i_in (j := 196) rfl (by decide) (by decide)) ?_
        refine e_putI dX11_again_258 lkX11_95' tt_127 rfl rfl rfl ?_
        refine e_aload_n dX11_again_261 rfl 0 rfl ?_
        refine e_aload_n dX11_again_262 rfl 1 rfl ?_
        refine e_sipush (v := 197) dX11_again_263 rfl ?_
        refine e_iald dX11_again_266 hc (i_in (j := 197) rfl (by decide) (by decide)) ?_
        refine e_putI dX11_again_267 lkX11_134' tt_127 rfl rfl rfl ?_
        refine e_aload_n dX11_again_270 rfl 0 rfl ?_
        refine e_aload_n dX11_again_271 rfl 1 rfl ?_
        refine e_sipush (v := 198) dX11_again_272 rfl ?_
        refine e_iald dX11_again_275 hc (i_in (j := 198) rfl (by decide) (by decide)) ?_
        refine e_putI dX11_again_276 lkX11_162' tt_127 rfl rfl rfl ?_
        refine e_aload_n dX11_again_279 rfl 0 rfl ?_
        refine e_aload_n dX11_again_280 rfl 1 rfl ?_
        refine e_sipush (v := 199) dX11_again_281 rfl ?_
        refine e_iald dX11_again_284 hc (i_in (j := 199) rfl (by decide) (by decide)) ?_
        refine e_putI dX11_again_285 lkX11_245' tt_127 rfl rfl rfl ?_
        refine e_aload_n dX11_again_288 rfl 0 rfl ?_
        refine e_aload_n dX11_again_289 rfl 1 rfl ?_
        refine e_sipush (v := 200) dX11_again_290 rfl ?_
        refine e_iald dX11_again_293 hc (i_in (j := 200) rfl (by decide) (by decide)) ?_
        refine e_putI dX11_again_294 lkX11_276' tt_127 rfl rfl rfl ?_
        refine e_aload_n dX11_again_297 rfl 0 rfl ?_
        refine e_aload_n dX11_again_298 rfl 1 rfl ?_
        refine e_sipush (v := 201) dX11_again_299 rfl ?_
        refine e_iald dX11_again_302 hc (i_in (j := 201) rfl (by decide) (by decide)) ?_
        refine e_putI dX11_again_303 lkX11_286' tt_127 rfl rfl rfl ?_
        refine e_retv dX11_again_306 (Nat.le_refl _) (Nat.le_refl _) ?_
        have h127 : c ≠ 127 := by omega
        have hcc : σ1 c = σ c := f1.1 c (by omega)
        rw [show (196 : Int32).toNatClampNeg = 196 from by decide]
        rw [show (197 : Int32).toNatClampNeg = 197 from by decide]
        rw [show (198 : Int32).toNatClampNeg = 198 from by decide]
        rw [show (199 : Int32).toNatClampNeg = 199 from by decide]
        rw [show (200 : Int32).toNatClampNeg = 200 from by decide]
        rw [show (201 : Int32).toNatClampNeg = 201 from by decide]
        exact ⟨((((((f1.fld (by decide)).fld (by decide)).fld (by decide)).fld (by decide)).fld (by decide)).fld (by decide)), fun q hq => (ag_or (q0 := 201) (ag_or (q0 := 200) (ag_or (q0 := 199) (ag_or (q0 := 198) (ag_or (q0 := 197) (ag_or (q0 := 196) f2 (by decide) wf_196 (by rw [hcc])) (by decide) wf_197 (by rw [sup_obj h127, hcc])) (by decide) wf_198 (by rw [sup_obj h127, sup_obj h127, hcc])) (by decide) wf_199 (by rw [sup_obj h127, sup_obj h127, sup_obj h127, hcc])) (by decide) wf_200 (by rw [sup_obj h127, sup_obj h127, sup_obj h127, sup_obj h127, hcc])) (by decide) wf_201 (by rw [sup_obj h127, sup_obj h127, sup_obj h127, sup_obj h127, sup_obj h127, hcc])) q hq (by omega), rfl⟩
      · skip
        exact absurd (show nI 8 ≤ nI 8 from (i_le (by omega) (by omega)).mpr (by omega)) h217
    | succ m ih =>
      intro p σ1 hp f1 f2
      refine e_iload_n dX11_again_214 rfl 2 rfl ?_
      refine e_bipush (v := 8) dX11_again_215 rfl ?_
      refine e_icmp_ge (t := 252) dX11_again_217 (by decide) (fun h217 => ?_) (fun h217 => ?_)
      · skip
        exact absurd ((i_le (by omega) (by omega)).mp (show nI 8 ≤ nI p from h217)) (by omega)
      · skip
        refine e_aload_n dX11_again_220 rfl 0 rfl ?_
        refine e_getR dX11_again_221 lkX11_66 tt_127 rfl ?_
        refine e_iload_n dX11_again_224 rfl 2 rfl ?_
        refine e_aload_n dX11_again_225 rfl 1 rfl ?_
        refine e_sipush (v := 180) dX11_again_226 rfl ?_
        refine e_iload_n dX11_again_229 rfl 2 rfl ?_
        refine e_iadd dX11_again_230 ?_
        rw [show (180 : Int32) = nI 180 from rfl, i_add]
        refine e_iald dX11_again_231 hc (vp_in_nI (by omega) (by decide)) ?_
        refine e_iast dX11_again_232 tt_146 (vp_in_nI (by omega) (by decide)) ?_
        refine e_aload_n dX11_again_233 rfl 0 rfl ?_
        refine e_getR dX11_again_234 lkX11_69 tt_127 rfl ?_
        refine e_iload_n dX11_again_237 rfl 2 rfl ?_
        refine e_aload_n dX11_again_238 rfl 1 rfl ?_
        refine e_sipush (v := 188) dX11_again_239 rfl ?_
        refine e_iload_n dX11_again_242 rfl 2 rfl ?_
        refine e_iadd dX11_again_243 ?_
        rw [show (188 : Int32) = nI 188 from rfl, i_add]
        refine e_iald dX11_again_244 hc (vp_in_nI (by omega) (by decide)) ?_
        refine e_iast dX11_again_245 tt_147 (vp_in_nI (by omega) (by decide)) ?_
        refine e_iinc (nI (p + 1)) [(0, .ref 127), (1, .ref c), (2, .int (nI (p + 1)))] dX11_again_246 2 rfl (nI_1 p) (by decide) rfl ?_
        refine e_goto (t := 214) dX11_again_249 (by decide) ?_
        rw [i_cl (show p < 2 ^ 31 by omega), i_cl (show 180 + p < 2 ^ 31 by omega), i_cl (show 188 + p < 2 ^ 31 by omega)]
        have hcc : σ1 c = σ c := f1.1 c (by omega)
        exact ih (p + 1) _ (by omega) ((f1.arr (by decide)).arr (by decide)) (fun q h202 hq => (ag_or (q0 := 188 + p) (ag_or (q0 := 180 + p) f2 (by omega) (wo_180 p (by omega)) (by rw [hcc])) (by omega) (wo_188 p (by omega)) (by rw [sup_obj (show c ≠ 146 by omega), hcc])) q h202 (by omega))
  have loop149 : ∀ (m p : Nat) (σ1 : ex_S), p + m = 5 → Wfr σ σ1 → (∀ q, q < 202 → (q < 160 ∨ (q < 180 ∧ 160 ≤ q ∧ q % 5 < p)) → wim σ1 q = σ c q) → Ev RX11 cX11_again 3 3 0 0 "again" none ev_ext TT.length (fun v9 T9 σ9 μ9 => T9 = TT ∧ v9 = none ∧ (fun σ' μ' => Wfr σ σ' ∧ (∀ q, q < 202 → wim σ' q = σ c q) ∧ μ' = μ) σ9 μ9) 0 0 149 [(0, .ref 127), (1, .ref c), (2, .int (nI p))] [] TT σ1 μ := by
    intro m
    induction m with
    | zero =>
      intro p σ1 hp f1 f2
      obtain rfl : p = 5 := by omega
      refine e_iload_n dX11_again_149 rfl 2 rfl ?_
      refine e_iconst (v := 5) dX11_again_150 rfl ?_
      refine e_icmp_ge (t := 212) dX11_again_151 (by decide) (fun h151 => ?_) (fun h151 => ?_)
      · skip
        refine e_iconst (v := 0) dX11_again_212 rfl ?_
        refine e_istore_n [(0, .ref 127), (1, .ref c), (2, .int (nI 0))] dX11_again_213 rfl (by decide) rfl ?_
        exact loop214 8 0 σ1 rfl f1 (fun q h202 hq => f2 q h202 (by omega))
      · skip
        exact absurd (show nI 5 ≤ nI 5 from (i_le (by omega) (by omega)).mpr (by omega)) h151
    | succ m ih =>
      intro p σ1 hp f1 f2
      refine e_iload_n dX11_again_149 rfl 2 rfl ?_
      refine e_iconst (v := 5) dX11_again_150 rfl ?_
      refine e_icmp_ge (t := 212) dX11_again_151 (by decide) (fun h151 => ?_) (fun h151 => ?_)
      · skip
        exact absurd ((i_le (by omega) (by omega)).mp (show nI 5 ≤ nI p from h151)) (by omega)
      · skip
        refine e_aload_n dX11_again_154 rfl 0 rfl ?_
        refine e_getR dX11_again_155 lkX11_42 tt_127 rfl ?_
        refine e_iload_n dX11_again_158 rfl 2 rfl ?_
        refine e_aload_n dX11_again_159 rfl 1 rfl ?_
        refine e_sipush (v := 160) dX11_again_160 rfl ?_
        refine e_iload_n dX11_again_163 rfl 2 rfl ?_
        refine e_iadd dX11_again_164 ?_
        rw [show (160 : Int32) = nI 160 from rfl, i_add]
        refine e_iald dX11_again_165 hc (vp_in_nI (by omega) (by decide)) ?_
        refine e_iast dX11_again_166 tt_138 (vp_in_nI (by omega) (by decide)) ?_
        refine e_aload_n dX11_again_167 rfl 0 rfl ?_
        refine e_getR dX11_again_168 lkX11_45 tt_127 rfl ?_
        refine e_iload_n dX11_again_171 rfl 2 rfl ?_
        refine e_aload_n dX11_again_172 rfl 1 rfl ?_
        refine e_sipush (v := 165) dX11_again_173 rfl ?_
        refine e_iload_n dX11_again_176 rfl 2 rfl ?_
        refine e_iadd dX11_again_177 ?_
        rw [show (165 : Int32) = nI 165 from rfl, i_add]
        refine e_iald dX11_again_178 hc (vp_in_nI (by omega) (by decide)) ?_
        refine e_iast dX11_again_179 tt_139 (vp_in_nI (by omega) (by decide)) ?_
        refine e_aload_n dX11_again_180 rfl 0 rfl ?_
        refine e_getR dX11_again_181 lkX11_54 tt_127 rfl ?_
        refine e_iload_n dX11_again_184 rfl 2 rfl ?_
        refine e_aload_n dX11_again_185 rfl 1 rfl ?_
        refine e_sipush (v := 170) dX11_again_186 rfl ?_
        refine e_iload_n dX11_again_189 rfl 2 rfl ?_
        refine e_iadd dX11_again_190 ?_
        rw [show (170 : Int32) = nI 170 from rfl, i_add]
        refine e_iald dX11_again_191 hc (vp_in_nI (by omega) (by decide)) ?_
        refine e_iast dX11_again_192 tt_142 (vp_in_nI (by omega) (by decide)) ?_
        refine e_aload_n dX11_again_193 rfl 0 rfl ?_
        refine e_getR dX11_again_194 lkX11_57 tt_127 rfl ?_
        refine e_iload_n dX11_again_197 rfl 2 rfl ?_
        refine e_aload_n dX11_again_198 rfl 1 rfl ?_
        refine e_sipush (v := 175) dX11_again_199 rfl ?_
        refine e_iload_n dX11_again_202 rfl 2 rfl ?_
        refine e_iadd dX11_again_203 ?_
        rw [show (175 : Int32) = nI 175 from rfl, i_add]
        refine e_iald dX11_again_204 hc (vp_in_nI (by omega) (by decide)) ?_
        refine e_iast dX11_again_205 tt_143 (vp_in_nI (by omega) (by decide)) ?_
        refine e_iinc (nI (p + 1)) [(0, .ref 127), (1, .ref c), (2, .int (nI (p + 1)))] dX11_again_206 2 rfl (nI_1 p) (by decide) rfl ?_
        refine e_goto (t := 149) dX11_again_209 (by decide) ?_
        rw [i_cl (show p < 2 ^ 31 by omega), i_cl (show 160 + p < 2 ^ 31 by omega), i_cl (show 165 + p < 2 ^ 31 by omega), i_cl (show 170 + p < 2 ^ 31 by omega), i_cl (show 175 + p < 2 ^ 31 by omega)]
        have hcc : σ1 c = σ c := f1.1 c (by omega)
        exact ih (p + 1) _ (by omega) ((((f1.arr (by decide)).arr (by decide)).arr (by decide)).arr (by decide)) (fun q h202 hq => (ag_or (q0 := 175 + p) (ag_or (q0 := 170 + p) (ag_or (q0 := 165 + p) (ag_or (q0 := 160 + p) f2 (by omega) (wo_160 p (by omega)) (by rw [hcc])) (by omega) (wo_165 p (by omega)) (by rw [sup_obj (show c ≠ 138 by omega), hcc])) (by omega) (wo_170 p (by omega)) (by rw [sup_obj (show c ≠ 139 by omega), sup_obj (show c ≠ 138 by omega), hcc])) (by omega) (wo_175 p (by omega)) (by rw [sup_obj (show c ≠ 142 by omega), sup_obj (show c ≠ 139 by omega), sup_obj (show c ≠ 138 by omega), hcc])) q h202 (by omega))
  have loop123 : ∀ (m p : Nat) (σ1 : ex_S), p + m = 40 → Wfr σ σ1 → (∀ q, q < 202 → (q < 120 + p) → wim σ1 q = σ c q) → Ev RX11 cX11_again 3 3 0 0 "again" none ev_ext TT.length (fun v9 T9 σ9 μ9 => T9 = TT ∧ v9 = none ∧ (fun σ' μ' => Wfr σ σ' ∧ (∀ q, q < 202 → wim σ' q = σ c q) ∧ μ' = μ) σ9 μ9) 0 0 123 [(0, .ref 127), (1, .ref c), (2, .int (nI p))] [] TT σ1 μ := by
    intro m
    induction m with
    | zero =>
      intro p σ1 hp f1 f2
      obtain rfl : p = 40 := by omega
      refine e_iload_n dX11_again_123 rfl 2 rfl ?_
      refine e_bipush (v := 40) dX11_again_124 rfl ?_
      refine e_icmp_ge (t := 147) dX11_again_126 (by decide) (fun h126 => ?_) (fun h126 => ?_)
      · skip
        refine e_iconst (v := 0) dX11_again_147 rfl ?_
        refine e_istore_n [(0, .ref 127), (1, .ref c), (2, .int (nI 0))] dX11_again_148 rfl (by decide) rfl ?_
        exact loop149 5 0 σ1 rfl f1 (fun q h202 hq => f2 q h202 (by omega))
      · skip
        exact absurd (show nI 40 ≤ nI 40 from (i_le (by omega) (by omega)).mpr (by omega)) h126
    | succ m ih =>
      intro p σ1 hp f1 f2
      refine e_iload_n dX11_again_123 rfl 2 rfl ?_
      refine e_bipush (v := 40) dX11_again_124 rfl ?_
      refine e_icmp_ge (t := 147) dX11_again_126 (by decide) (fun h126 => ?_) (fun h126 => ?_)
      · skip
        exact absurd ((i_le (by omega) (by omega)).mp (show nI 40 ≤ nI p from h126)) (by omega)
      · skip
        refine e_aload_n dX11_again_129 rfl 0 rfl ?_
        refine e_getR dX11_again_130 lkX11_39 tt_127 rfl ?_
        refine e_iload_n dX11_again_133 rfl 2 rfl ?_
        refine e_aload_n dX11_again_134 rfl 1 rfl ?_
        refine e_bipush (v := 120) dX11_again_135 rfl ?_
        refine e_iload_n dX11_again_137 rfl 2 rfl ?_
        refine e_iadd dX11_again_138 ?_
        rw [show (120 : Int32) = nI 120 from rfl, i_add]
        refine e_iald dX11_again_139 hc (vp_in_nI (by omega) (by decide)) ?_
        refine e_iast dX11_again_140 tt_137 (vp_in_nI (by omega) (by decide)) ?_
        refine e_iinc (nI (p + 1)) [(0, .ref 127), (1, .ref c), (2, .int (nI (p + 1)))] dX11_again_141 2 rfl (nI_1 p) (by decide) rfl ?_
        refine e_goto (t := 123) dX11_again_144 (by decide) ?_
        rw [i_cl (show p < 2 ^ 31 by omega), i_cl (show 120 + p < 2 ^ 31 by omega)]
        have hcc : σ1 c = σ c := f1.1 c (by omega)
        exact ih (p + 1) _ (by omega) (f1.arr (by decide)) (fun q h202 hq => (ag_or (q0 := 120 + p) f2 (by omega) (wo_120 p (by omega)) (by rw [hcc])) q h202 (by omega))
  have loop97 : ∀ (m p : Nat) (σ1 : ex_S), p + m = 50 → Wfr σ σ1 → (∀ q, q < 202 → (q < 70 + p) → wim σ1 q = σ c q) → Ev RX11 cX11_again 3 3 0 0 "again" none ev_ext TT.length (fun v9 T9 σ9 μ9 => T9 = TT ∧ v9 = none ∧ (fun σ' μ' => Wfr σ σ' ∧ (∀ q, q < 202 → wim σ' q = σ c q) ∧ μ' = μ) σ9 μ9) 0 0 97 [(0, .ref 127), (1, .ref c), (2, .int (nI p))] [] TT σ1 μ := by
    intro m
    induction m with
    | zero =>
      intro p σ1 hp f1 f2
      obtain rfl : p = 50 := by omega
      refine e_iload_n dX11_again_97 rfl 2 rfl ?_
      refine e_bipush (v := 50) dX11_again_98 rfl ?_
      refine e_icmp_ge (t := 121) dX11_again_100 (by decide) (fun h100 => ?_) (fun h100 => ?_)
      · skip
        refine e_iconst (v := 0) dX11_again_121 rfl ?_
        refine e_istore_n [(0, .ref 127), (1, .ref c), (2, .int (nI 0))] dX11_again_122 rfl (by decide) rfl ?_
        exact loop123 40 0 σ1 rfl f1 (fun q h202 hq => f2 q h202 (by omega))
      · skip
        exact absurd (show nI 50 ≤ nI 50 from (i_le (by omega) (by omega)).mpr (by omega)) h100
    | succ m ih =>
      intro p σ1 hp f1 f2
      refine e_iload_n dX11_again_97 rfl 2 rfl ?_
      refine e_bipush (v := 50) dX11_again_98 rfl ?_
      refine e_icmp_ge (t := 121) dX11_again_100 (by decide) (fun h100 => ?_) (fun h100 => ?_)
      · skip
        exact absurd ((i_le (by omega) (by omega)).mp (show nI 50 ≤ nI p from h100)) (by omega)
      · skip
        refine e_aload_n dX11_again_103 rfl 0 rfl ?_
        refine e_getR dX11_again_104 lkX11_36 tt_127 rfl ?_
        refine e_iload_n dX11_again_107 rfl 2 rfl ?_
        refine e_aload_n dX11_again_108 rfl 1 rfl ?_
        refine e_bipush (v := 70) dX11_again_109 rfl ?_
        refine e_iload_n dX11_again_111 rfl 2 rfl ?_
        refine e_iadd dX11_again_112 ?_
        rw [show (70 : Int32) = nI 70 from rfl, i_add]
        refine e_iald dX11_again_113 hc (vp_in_nI (by omega) (by decide)) ?_
        refine e_iast dX11_again_114 tt_136 (vp_in_nI (by omega) (by decide)) ?_
        refine e_iinc (nI (p + 1)) [(0, .ref 127), (1, .ref c), (2, .int (nI (p + 1)))] dX11_again_115 2 rfl (nI_1 p) (by decide) rfl ?_
        refine e_goto (t := 97) dX11_again_118 (by decide) ?_
        rw [i_cl (show p < 2 ^ 31 by omega), i_cl (show 70 + p < 2 ^ 31 by omega)]
        have hcc : σ1 c = σ c := f1.1 c (by omega)
        exact ih (p + 1) _ (by omega) (f1.arr (by decide)) (fun q h202 hq => (ag_or (q0 := 70 + p) f2 (by omega) (wo_70 p (by omega)) (by rw [hcc])) q h202 (by omega))
  have loop2 : ∀ (m p : Nat) (σ1 : ex_S), p + m = 10 → Wfr σ σ1 → (∀ q, q < 202 → (q < 70 ∧ q % 10 < p) → wim σ1 q = σ c q) → Ev RX11 cX11_again 3 3 0 0 "again" none ev_ext TT.length (fun v9 T9 σ9 μ9 => T9 = TT ∧ v9 = none ∧ (fun σ' μ' => Wfr σ σ' ∧ (∀ q, q < 202 → wim σ' q = σ c q) ∧ μ' = μ) σ9 μ9) 0 0 2 [(0, .ref 127), (1, .ref c), (2, .int (nI p))] [] TT σ1 μ := by
    intro m
    induction m with
    | zero =>
      intro p σ1 hp f1 f2
      obtain rfl : p = 10 := by omega
      refine e_iload_n dX11_again_2 rfl 2 rfl ?_
      refine e_bipush (v := 10) dX11_again_3 rfl ?_
      refine e_icmp_ge (t := 95) dX11_again_5 (by decide) (fun h5 => ?_) (fun h5 => ?_)
      · skip
        refine e_iconst (v := 0) dX11_again_95 rfl ?_
        refine e_istore_n [(0, .ref 127), (1, .ref c), (2, .int (nI 0))] dX11_again_96 rfl (by decide) rfl ?_
        exact loop97 50 0 σ1 rfl f1 (fun q h202 hq => f2 q h202 (by omega))
      · skip
        exact absurd (show nI 10 ≤ nI 10 from (i_le (by omega) (by omega)).mpr (by omega)) h5
    | succ m ih =>
      intro p σ1 hp f1 f2
      refine e_iload_n dX11_again_2 rfl 2 rfl ?_
      refine e_bipush (v := 10) dX11_again_3 rfl ?_
      refine e_icmp_ge (t := 95) dX11_again_5 (by decide) (fun h5 => ?_) (fun h5 => ?_)
      · skip
        exact absurd ((i_le (by omega) (by omega)).mp (show nI 10 ≤ nI p from h5)) (by omega)
      · skip
        refine e_aload_n dX11_again_8 rfl 0 rfl ?_
        refine e_getR dX11_again_9 lkX11_21 tt_127 rfl ?_
        refine e_iload_n dX11_again_12 rfl 2 rfl ?_
        refine e_aload_n dX11_again_13 rfl 1 rfl ?_
        refine e_iload_n dX11_again_14 rfl 2 rfl ?_
        refine e_iald dX11_again_15 hc (vp_in_nI (by omega) (by decide)) ?_
        refine e_iast dX11_again_16 tt_131 (vp_in_nI (by omega) (by decide)) ?_
        refine e_aload_n dX11_again_17 rfl 0 rfl ?_
        refine e_getR dX11_again_18 lkX11_24 tt_127 rfl ?_
        refine e_iload_n dX11_again_21 rfl 2 rfl ?_
        refine e_aload_n dX11_again_22 rfl 1 rfl ?_
        refine e_bipush (v := 10) dX11_again_23 rfl ?_
        refine e_iload_n dX11_again_25 rfl 2 rfl ?_
        refine e_iadd dX11_again_26 ?_
        rw [show (10 : Int32) = nI 10 from rfl, i_add]
        refine e_iald dX11_again_27 hc (vp_in_nI (by omega) (by decide)) ?_
        refine e_iast dX11_again_28 tt_132 (vp_in_nI (by omega) (by decide)) ?_
        refine e_aload_n dX11_again_29 rfl 0 rfl ?_
        refine e_getR dX11_again_30 lkX11_27 tt_127 rfl ?_
        refine e_iload_n dX11_again_33 rfl 2 rfl ?_
        refine e_aload_n dX11_again_34 rfl 1 rfl ?_
        refine e_bipush (v := 20) dX11_again_35 rfl ?_
        refine e_iload_n dX11_again_37 rfl 2 rfl ?_
        refine e_iadd dX11_again_38 ?_
        rw [show (20 : Int32) = nI 20 from rfl, i_add]
        refine e_iald dX11_again_39 hc (vp_in_nI (by omega) (by decide)) ?_
        refine e_iast dX11_again_40 tt_133 (vp_in_nI (by omega) (by decide)) ?_
        refine e_aload_n dX11_again_41 rfl 0 rfl ?_
        refine e_getR dX11_again_42 lkX11_30 tt_127 rfl ?_
        refine e_iload_n dX11_again_45 rfl 2 rfl ?_
        refine e_aload_n dX11_again_46 rfl 1 rfl ?_
        refine e_bipush (v := 30) dX11_again_47 rfl ?_
        refine e_iload_n dX11_again_49 rfl 2 rfl ?_
        refine e_iadd dX11_again_50 ?_
        rw [show (30 : Int32) = nI 30 from rfl, i_add]
        refine e_iald dX11_again_51 hc (vp_in_nI (by omega) (by decide)) ?_
        refine e_iast dX11_again_52 tt_134 (vp_in_nI (by omega) (by decide)) ?_
        refine e_aload_n dX11_again_53 rfl 0 rfl ?_
        refine e_getR dX11_again_54 lkX11_33 tt_127 rfl ?_
        refine e_iload_n dX11_again_57 rfl 2 rfl ?_
        refine e_aload_n dX11_again_58 rfl 1 rfl ?_
        refine e_bipush (v := 40) dX11_again_59 rfl ?_
        refine e_iload_n dX11_again_61 rfl 2 rfl ?_
        refine e_iadd dX11_again_62 ?_
        rw [show (40 : Int32) = nI 40 from rfl, i_add]
        refine e_iald dX11_again_63 hc (vp_in_nI (by omega) (by decide)) ?_
        refine e_iast dX11_again_64 tt_135 (vp_in_nI (by omega) (by decide)) ?_
        refine e_aload_n dX11_again_65 rfl 0 rfl ?_
        refine e_getR dX11_again_66 lkX11_60 tt_127 rfl ?_
        refine e_iload_n dX11_again_69 rfl 2 rfl ?_
        refine e_aload_n dX11_again_70 rfl 1 rfl ?_
        refine e_bipush (v := 50) dX11_again_71 rfl ?_
        refine e_iload_n dX11_again_73 rfl 2 rfl ?_
        refine e_iadd dX11_again_74 ?_
        rw [show (50 : Int32) = nI 50 from rfl, i_add]
        refine e_iald dX11_again_75 hc (vp_in_nI (by omega) (by decide)) ?_
        refine e_iast dX11_again_76 tt_144 (vp_in_nI (by omega) (by decide)) ?_
        refine e_aload_n dX11_again_77 rfl 0 rfl ?_
        refine e_getR dX11_again_78 lkX11_63 tt_127 rfl ?_
        refine e_iload_n dX11_again_81 rfl 2 rfl ?_
        refine e_aload_n dX11_again_82 rfl 1 rfl ?_
        refine e_bipush (v := 60) dX11_again_83 rfl ?_
        refine e_iload_n dX11_again_85 rfl 2 rfl ?_
        refine e_iadd dX11_again_86 ?_
        rw [show (60 : Int32) = nI 60 from rfl, i_add]
        refine e_iald dX11_again_87 hc (vp_in_nI (by omega) (by decide)) ?_
        refine e_iast dX11_again_88 tt_145 (vp_in_nI (by omega) (by decide)) ?_
        refine e_iinc (nI (p + 1)) [(0, .ref 127), (1, .ref c), (2, .int (nI (p + 1)))] dX11_again_89 2 rfl (nI_1 p) (by decide) rfl ?_
        refine e_goto (t := 2) dX11_again_92 (by decide) ?_
        rw [i_cl (show p < 2 ^ 31 by omega), i_cl (show 10 + p < 2 ^ 31 by omega), i_cl (show 20 + p < 2 ^ 31 by omega), i_cl (show 30 + p < 2 ^ 31 by omega), i_cl (show 40 + p < 2 ^ 31 by omega), i_cl (show 50 + p < 2 ^ 31 by omega), i_cl (show 60 + p < 2 ^ 31 by omega)]
        have hcc : σ1 c = σ c := f1.1 c (by omega)
        exact ih (p + 1) _ (by omega) (((((((f1.arr (by decide)).arr (by decide)).arr (by decide)).arr (by decide)).arr (by decide)).arr (by decide)).arr (by decide)) (fun q h202 hq => (ag_or (q0 := 60 + p) (ag_or (q0 := 50 + p) (ag_or (q0 := 40 + p) (ag_or (q0 := 30 + p) (ag_or (q0 := 20 + p) (ag_or (q0 := 10 + p) (ag_or (q0 := p) f2 (by omega) (wo_0 p (by omega)) (by rw [hcc])) (by omega) (wo_10 p (by omega)) (by rw [sup_obj (show c ≠ 131 by omega), hcc])) (by omega) (wo_20 p (by omega)) (by rw [sup_obj (show c ≠ 132 by omega), sup_obj (show c ≠ 131 by omega), hcc])) (by omega) (wo_30 p (by omega)) (by rw [sup_obj (show c ≠ 133 by omega), sup_obj (show c ≠ 132 by omega), sup_obj (show c ≠ 131 by omega), hcc])) (by omega) (wo_40 p (by omega)) (by rw [sup_obj (show c ≠ 134 by omega), sup_obj (show c ≠ 133 by omega), sup_obj (show c ≠ 132 by omega), sup_obj (show c ≠ 131 by omega), hcc])) (by omega) (wo_50 p (by omega)) (by rw [sup_obj (show c ≠ 135 by omega), sup_obj (show c ≠ 134 by omega), sup_obj (show c ≠ 133 by omega), sup_obj (show c ≠ 132 by omega), sup_obj (show c ≠ 131 by omega), hcc])) (by omega) (wo_60 p (by omega)) (by rw [sup_obj (show c ≠ 144 by omega), sup_obj (show c ≠ 135 by omega), sup_obj (show c ≠ 134 by omega), sup_obj (show c ≠ 133 by omega), sup_obj (show c ≠ 132 by omega), sup_obj (show c ≠ 131 by omega), hcc])) q h202 (by omega))
  refine e_iconst (v := 0) dX11_again_0 rfl ?_
  refine e_istore_n [(0, .ref 127), (1, .ref c), (2, .int (nI 0))] dX11_again_1 rfl (by decide) rfl ?_
  exact loop2 10 0 σ rfl Wfr.rf (fun q _ hq => absurd hq.2 (by omega))

set_option maxRecDepth 100000 in
theorem c11_image {S : ns_T} {σ : ex_S} {μ : ex_L}(hR : NR σ S) : Ci 4 yX11_image cX11_image 1 (some .int) [.ref 127] TT σ μ (fun z' σ' μ' => z' = nI (S 0 0) ∧ (∀ q, q < 202 → σ' 148 q = wim σ q) ∧ σ' 127 31 = 1 ∧ (∀ i, i ≠ 127 → i ≠ 148 → σ' i = σ i) ∧ (∀ k, k ≠ 31 → σ' 127 k = σ 127 k) ∧ μ' = μ) := by
  refine Cl_of (by decide +kernel) (Nat.le_of_ble_eq_true rfl) ?_
  show Ev RX11 cX11_image 1 4 0 0 "image" (some .int) ev_ext _ _ 0 0 0 [(0, .ref 127)] [] TT σ μ
  refine e_aload_n dX11_image_0 rfl 0 rfl ?_
  refine e_iconst (v := 1) dX11_image_1 rfl ?_
  refine e_putI dX11_image_2 lkX11_289' tt_127 rfl rfl rfl ?_
  refine e_aload_n dX11_image_5 rfl 0 rfl ?_
  refine e_aload_n dX11_image_6 rfl 0 rfl ?_
  refine e_getR dX11_image_7 lkX11_72 tt_127 rfl ?_
  refine e_callVv dX11_image_10 cvX11_279 rfl tt_127 rfl (c11_keep tt_148 (Or.inl rfl)) (Nat.le_of_ble_eq_true rfl) (Nat.le_refl _) (Nat.le_refl _) rfl (Nat.le_of_ble_eq_true rfl) (fun s10 m10 q10 => ?_)
  obtain ⟨f0, p0, g0⟩ := q10
  rw [g0]
  refine e_aload_n dX11_image_13 rfl 0 rfl ?_
  refine e_getI dX11_image_14 lkX11_95 tt_127 rfl ?_
  refine e_reti dX11_image_17 ev_nwi (Nat.le_refl _) (Nat.le_refl _) ?_
  exact ⟨by rw [f0 127 (by decide), sup_idx (by decide)]; exact hR.1, fun q hq => by rw [p0 q hq]; exact (by
      unfold wim
      by_cases e : wob q = 127
      · rw [e, sup_idx (fun z => (wno31 q hq).1 ⟨e, Or.inl z⟩)]
      · rw [sup_obj e]), by rw [f0 127 (by decide), sup_same], fun i h1 h2 => by rw [f0 i h2, sup_obj h1], fun k hk => by rw [f0 127 (by decide), sup_idx hk], rfl⟩

set_option maxRecDepth 100000 in
theorem c11_undo0 {σ : ex_S} {μ : ex_L}(h : σ 127 31 = 0) : Ci 4 yX11_undo cX11_undo 1 (some .int) [.ref 127] TT σ μ (fun z' σ' μ' => z' = -3 ∧ σ' = σ ∧ μ' = μ) := by
  refine Cl_of (by decide +kernel) (Nat.le_of_ble_eq_true rfl) ?_
  show Ev RX11 cX11_undo 1 4 0 0 "undo" (some .int) ev_ext _ _ 0 0 0 [(0, .ref 127)] [] TT σ μ
  refine e_aload_n dX11_undo_0 rfl 0 rfl ?_
  refine e_getI dX11_undo_1 lkX11_289 tt_127 rfl ?_
  refine e_if_ne (t := 10) dX11_undo_4 (by decide) (fun h4 => ?_) (fun h4 => ?_)
  · skip
    exact absurd h h4
  · skip
    refine e_bipush (v := (-3)) dX11_undo_7 rfl ?_
    refine e_reti dX11_undo_9 ev_nwi (Nat.le_refl _) (Nat.le_refl _) ?_
    exact ⟨rfl, rfl, rfl⟩

set_option maxRecDepth 100000 in
theorem c11_undo1 {σ : ex_S} {μ : ex_L}(h1 : σ 127 31 = 1) : Ci 4 yX11_undo cX11_undo 1 (some .int) [.ref 127] TT σ μ (fun z' σ' μ' => z' = σ' 127 5 ∧ Wfr σ σ' ∧ (∀ q, q < 202 → wim σ' q = σ 148 q) ∧ μ' = μ) := by
  refine Cl_of (by decide +kernel) (Nat.le_of_ble_eq_true rfl) ?_
  show Ev RX11 cX11_undo 1 4 0 0 "undo" (some .int) ev_ext _ _ 0 0 0 [(0, .ref 127)] [] TT σ μ
  refine e_aload_n dX11_undo_0 rfl 0 rfl ?_
  refine e_getI dX11_undo_1 lkX11_289 tt_127 rfl ?_
  refine e_if_ne (t := 10) dX11_undo_4 (by decide) (fun h4 => ?_) (fun h4 => ?_)
  · skip
    refine e_aload_n dX11_undo_10 rfl 0 rfl ?_
    refine e_aload_n dX11_undo_11 rfl 0 rfl ?_
    refine e_getR dX11_undo_12 lkX11_72 tt_127 rfl ?_
    refine e_callVv dX11_undo_15 cvX11_283 rfl tt_127 rfl (c11_again tt_148 (Or.inl rfl)) (Nat.le_of_ble_eq_true rfl) (Nat.le_refl _) (Nat.le_refl _) rfl (Nat.le_of_ble_eq_true rfl) (fun s15 m15 q15 => ?_)
    obtain ⟨f0, p0, g0⟩ := q15
    rw [g0]
    refine e_aload_n dX11_undo_18 rfl 0 rfl ?_
    refine e_getI dX11_undo_19 lkX11_95 tt_127 rfl ?_
    refine e_reti dX11_undo_22 ev_nwi (Nat.le_refl _) (Nat.le_refl _) ?_
    exact ⟨rfl, f0, p0, rfl⟩
  · skip
    exact absurd (h1.symm.trans h4) (by decide)
