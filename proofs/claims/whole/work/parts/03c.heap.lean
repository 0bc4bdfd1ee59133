section EVH
variable {own : String} {cc : ByteArray} {nL d mc ms : Nat} {nm : String} {rt : Option FieldType} {ex : List (Nat × Nat × (Nat → Int32))} {n0 : Nat} {Rq : ev_Q} {k n pc : Nat} {lv : List (Nat × Value)} {st : List Value} {T : List ex_T} {σ : ex_S} {μ : ex_L}
theorem e_getI {i idx ci f : Nat} {sl : List (Option (Option Nat))} (hd : decode cc pc = .ok (.getfield idx, 3)) (hk : ev_lg own idx ci f) (hT : T[i]? = some (.inl (ci, sl))) (hs : sl[f]? = some none)
    (K : Ev own cc nL d mc ms nm rt ex n0 Rq k n (pc + 3) lv (.int (σ i f) :: st) T σ μ) : Ev own cc nL d mc ms nm rt ex n0 Rq k n pc lv (.ref i :: st) T σ μ := by
  intro p l e R s m args below meth c dC dI cls ad0 A Qf C F ad H locs ls h1 h2 hH hl
  obtain ⟨Cn, TT, N, hc, hin, hf, hlk⟩ := hk
  refine va_get (D := (dC, dI)) C.1 C.2.1 (Ts := ev_ws) C.2.2.2.2.1 hin C.2.2.2.1 C.2.2.2.2.2.2.2.2.2.2.2.1.1 hH.1 i (ev_w_get hT) hc f hf (C.2.2.2.2.1 _ hlk) (fun _ h => h) (v := .int (σ i f)) ?_ hd (K p l e R s m args below meth c dC dI cls ad0 A Qf C F ad H locs ls h1 h2 hH hl)
  rw [List.getElem?_mapIdx, hs]
  rfl
theorem e_getR {i idx ci f r : Nat} {sl : List (Option (Option Nat))} (hd : decode cc pc = .ok (.getfield idx, 3)) (hk : ev_lg own idx ci f) (hT : T[i]? = some (.inl (ci, sl))) (hs : sl[f]? = some (some (some r)))
    (K : Ev own cc nL d mc ms nm rt ex n0 Rq k n (pc + 3) lv (.ref r :: st) T σ μ) : Ev own cc nL d mc ms nm rt ex n0 Rq k n pc lv (.ref i :: st) T σ μ := by
  intro p l e R s m args below meth c dC dI cls ad0 A Qf C F ad H locs ls h1 h2 hH hl
  obtain ⟨Cn, TT, N, hc, hin, hf, hlk⟩ := hk
  refine va_get (D := (dC, dI)) C.1 C.2.1 (Ts := ev_ws) C.2.2.2.2.1 hin C.2.2.2.1 C.2.2.2.2.2.2.2.2.2.2.2.1.1 hH.1 i (ev_w_get hT) hc f hf (C.2.2.2.2.1 _ hlk) (fun _ h => h) (v := .ref (ad r)) ?_ hd (K p l e R s m args below meth c dC dI cls ad0 A Qf C F ad H locs ls h1 h2 hH hl)
  rw [List.getElem?_mapIdx, hs]
  rfl
theorem ev_set_int {ad : Nat → Nat} {cls : Nat → ClassId} {i f ci : Nat} {sl : List (Option (Option Nat))} {x : Int32} (hT : T[i]? = some (.inl (ci, sl))) (hs : sl[f]? = some none) :
    (ev_w ad cls T σ μ).set i (ad i, .inr (ci, (sl.mapIdx fun k s => ev_s ad σ i k s).set f (.int x))) = ev_w ad cls T (sup σ i f x) μ := by
  rw [sup_eq, ev_w_srow hT]
  refine congrArg (fun z => (ev_w ad cls T σ μ).set i (ad i, z)) ?_
  show Sum.inr (ci, _) = Sum.inr (ci, _)
  refine congrArg (fun z => Sum.inr (ci, z)) ?_
  apply List.ext_getElem?
  intro j
  rw [List.getElem?_set, List.getElem?_mapIdx, List.getElem?_mapIdx, List.length_mapIdx]
  have hlt := (List.getElem?_eq_some_iff.mp hs).1
  by_cases hj : f = j
  · subst hj
    rw [if_pos rfl, if_pos hlt, hs]
    show _ = some (Value.int (srow σ i (upd (σ i) f x) i f))
    rw [srow, if_pos rfl, upd, if_pos rfl]
  · rw [if_neg hj]
    refine congrArg (fun z => Option.map z sl[j]?) ?_
    funext s
    cases s with
    | none =>
      show Value.int (σ i j) = Value.int (srow σ i (upd (σ i) f x) i j)
      rw [srow, if_pos rfl, upd, if_neg (fun q => hj q.symm)]
    | some r => rfl
theorem e_putI {i idx ci f : Nat} {sl : List (Option (Option Nat))} {x : Int32} {ty : FieldType} (hd : decode cc pc = .ok (.putfield idx, 3)) (hk : ev_lk own idx ci f ty false) (hT : T[i]? = some (.inl (ci, sl))) (hs : sl[f]? = some none) (hn : narrow ty (.int x) = .int x) (hfit : fits ty (.int x) = true)
    (K : Ev own cc nL d mc ms nm rt ex n0 Rq k n (pc + 3) lv st T (sup σ i f x) μ) : Ev own cc nL d mc ms nm rt ex n0 Rq k n pc lv (.int x :: .ref i :: st) T σ μ := by
  intro p l e R s m args below meth c dC dI cls ad0 A Qf C F ad H locs ls h1 h2 hH hl
  obtain ⟨Cn, TT, N, ty0, hc, hin, hf, hlk, hty, hnm, hfin, -, hpd⟩ := hk
  refine va_put (D := (dC, dI)) C.1 C.2.1 (Ts := ev_ws) C.2.2.2.2.1 hin ty0 hty hnm C.2.2.2.1 C.2.2.2.2.2.2.2.2.2.2.2.1.1 hH.1 hH.2.1 hH.2.2.1 i (ev_w_get hT) hc f hf (C.2.2.2.2.1 _ hlk) (fun _ h => h) hfin hpd hn hfit (by rw [List.length_mapIdx]; exact (List.getElem?_eq_some_iff.mp hs).1) hd (fun H1 locs1 hP hD hS => ?_)
  have e1 := ev_set_int (ad := ad) (cls := cls) (μ := μ) (x := x) (σ := σ) hT hs
  have hP : va_P (dC, dI) vwCl (ev_w ad cls T (sup σ i f x) μ) H1 := by
    rw [← e1]
    exact hP
  have hD : va_D A (ev_w ad cls T (sup σ i f x) μ) := by
    rw [← e1]
    exact hD
  exact K p l e R s m args below meth c dC dI cls ad0 A Qf C F ad H1 locs1 ls h1 h2 ⟨hP, hD, hS, hH.2.2.2⟩ hl
theorem ev_a_int {ad : Nat → Nat} {ty n : Nat} {fs : List (Option Nat)} {i : Nat} (h : ty ≤ 1) : ev_a ad σ μ i ty n fs = (n, .inl (σ i)) := by
  unfold ev_a
  rw [if_neg (by omega), if_pos h]
theorem ev_a_long {ad : Nat → Nat} {n : Nat} {fs : List (Option Nat)} {i : Nat} : ev_a ad σ μ i 2 n fs = (n, .inr (.inl (μ i))) := rfl
theorem ev_a_ref {ad : Nat → Nat} {ty n : Nat} {fs : List (Option Nat)} {i : Nat} (h : 3 ≤ ty) : ev_a ad σ μ i ty n fs = (n, .inr (.inr (.inr (.inr (fun j => (fs.getD j none).map ad))))) := by
  unfold ev_a
  rw [if_neg (by omega), if_neg (by omega)]
theorem ev_w_getA {ad : Nat → Nat} {cls : Nat → ClassId} {i ty N : Nat} {fs : List (Option Nat)} (h : T[i]? = some (.inr (ty, N, fs))) : (ev_w ad cls T σ μ)[i]? = some (ad i, .inl (cls ty, ev_a ad σ μ i ty N fs)) := ev_w_get h
theorem e_iald {i N : Nat} {fs : List (Option Nat)} {x : Int32} (hd : decode cc pc = .ok (.iaload, 1)) (hT : T[i]? = some (.inr (0, N, fs))) (hx : vp_in x N)
    (K : Ev own cc nL d mc ms nm rt ex n0 Rq k n (pc + 1) lv (.int (σ i x.toNatClampNeg) :: st) T σ μ) : Ev own cc nL d mc ms nm rt ex n0 Rq k n pc lv (.int x :: .ref i :: st) T σ μ := by
  intro p l e R s m args below meth c dC dI cls ad0 A Qf C F ad H locs ls h1 h2 hH hl
  exact va_iald (D := (dC, dI)) C.1 C.2.1 C.2.2.2.2.2.2.2.2.2.2.2.1.1 hH.1 i 0 (ev_w_getA hT) rfl hx hd (K p l e R s m args below meth c dC dI cls ad0 A Qf C F ad H locs ls h1 h2 hH hl)
theorem e_cald {i N : Nat} {fs : List (Option Nat)} {x : Int32} (hd : decode cc pc = .ok (.caload, 1)) (hT : T[i]? = some (.inr (1, N, fs))) (hx : vp_in x N)
    (K : Ev own cc nL d mc ms nm rt ex n0 Rq k n (pc + 1) lv (.int (σ i x.toNatClampNeg) :: st) T σ μ) : Ev own cc nL d mc ms nm rt ex n0 Rq k n pc lv (.int x :: .ref i :: st) T σ μ := by
  intro p l e R s m args below meth c dC dI cls ad0 A Qf C F ad H locs ls h1 h2 hH hl
  exact va_cald (D := (dC, dI)) C.1 C.2.1 C.2.2.2.2.2.2.2.2.2.2.2.1.1 hH.1 i 1 (ev_w_getA hT) rfl hx hd (K p l e R s m args below meth c dC dI cls ad0 A Qf C F ad H locs ls h1 h2 hH hl)
theorem e_lald {i N : Nat} {fs : List (Option Nat)} {x : Int32} (hd : decode cc pc = .ok (.laload, 1)) (hT : T[i]? = some (.inr (2, N, fs))) (hx : vp_in x N)
    (K : Ev own cc nL d mc ms nm rt ex n0 Rq k n (pc + 1) lv (.long (μ i x.toNatClampNeg) :: st) T σ μ) : Ev own cc nL d mc ms nm rt ex n0 Rq k n pc lv (.int x :: .ref i :: st) T σ μ := by
  intro p l e R s m args below meth c dC dI cls ad0 A Qf C F ad H locs ls h1 h2 hH hl
  exact va_lald (D := (dC, dI)) C.1 C.2.1 C.2.2.2.2.2.2.2.2.2.2.2.1.1 hH.1 i 2 (ev_w_getA hT) rfl hx hd (K p l e R s m args below meth c dC dI cls ad0 A Qf C F ad H locs ls h1 h2 hH hl)
theorem ev_set_arr {ad : Nat → Nat} {cls : Nat → ClassId} {i N ty : Nat} {fs : List (Option Nat)} {f : Nat → Int32} (hT : T[i]? = some (.inr (ty, N, fs))) (h : ty ≤ 1) :
    (ev_w ad cls T σ μ).set i (ad i, .inl (cls ty, N, .inl f)) = ev_w ad cls T (srow σ i f) μ := by
  rw [ev_w_srow hT]
  refine congrArg (fun z => (ev_w ad cls T σ μ).set i (ad i, z)) ?_
  show _ = Sum.inl (cls ty, ev_a ad (srow σ i f) μ i ty N fs)
  rw [ev_a_int h, srow, if_pos rfl]
theorem ev_set_larr {ad : Nat → Nat} {cls : Nat → ClassId} {i N : Nat} {fs : List (Option Nat)} {f : Nat → Int64} (hT : T[i]? = some (.inr (2, N, fs))) :
    (ev_w ad cls T σ μ).set i (ad i, .inl (cls 2, N, .inr (.inl f))) = ev_w ad cls T σ (lrow μ i f) := by
  rw [ev_w_lrow hT]
  refine congrArg (fun z => (ev_w ad cls T σ μ).set i (ad i, z)) ?_
  show _ = Sum.inl (cls 2, ev_a ad σ (lrow μ i f) i 2 N fs)
  rw [ev_a_long, lrow, if_pos rfl]
theorem e_iast {i N : Nat} {fs : List (Option Nat)} {x v : Int32} (hd : decode cc pc = .ok (.iastore, 1)) (hT : T[i]? = some (.inr (0, N, fs))) (hx : vp_in x N)
    (K : Ev own cc nL d mc ms nm rt ex n0 Rq k n (pc + 1) lv st T (sup σ i x.toNatClampNeg v) μ) : Ev own cc nL d mc ms nm rt ex n0 Rq k n pc lv (.int v :: .int x :: .ref i :: st) T σ μ := by
  intro p l e R s m args below meth c dC dI cls ad0 A Qf C F ad H locs ls h1 h2 hH hl
  refine va_iast (D := (dC, dI)) C.1 C.2.1 C.2.2.2.2.2.2.2.2.2.2.2.1.1 hH.1 hH.2.1 hH.2.2.1 i 0 (ev_w_getA hT) rfl hx hd (fun H1 locs1 hP hD hS => ?_)
  have e1 := ev_set_arr (ad := ad) (cls := cls) (μ := μ) (σ := σ) (f := upd (σ i) x.toNatClampNeg v) hT (Nat.zero_le 1)
  rw [e1] at hP hD
  exact K p l e R s m args below meth c dC dI cls ad0 A Qf C F ad H1 locs1 ls h1 h2 ⟨hP, hD, hS, hH.2.2.2⟩ hl
theorem e_cast {i N : Nat} {fs : List (Option Nat)} {x v : Int32} (hd : decode cc pc = .ok (.castore, 1)) (hT : T[i]? = some (.inr (1, N, fs))) (hx : vp_in x N)
    (K : Ev own cc nL d mc ms nm rt ex n0 Rq k n (pc + 1) lv st T (sup σ i x.toNatClampNeg (vp_nar .char v)) μ) : Ev own cc nL d mc ms nm rt ex n0 Rq k n pc lv (.int v :: .int x :: .ref i :: st) T σ μ := by
  intro p l e R s m args below meth c dC dI cls ad0 A Qf C F ad H locs ls h1 h2 hH hl
  refine va_cast (D := (dC, dI)) C.1 C.2.1 C.2.2.2.2.2.2.2.2.2.2.2.1.1 hH.1 hH.2.1 hH.2.2.1 i 1 (ev_w_getA hT) rfl hx hd (fun H1 locs1 hP hD hS => ?_)
  have e1 := ev_set_arr (ad := ad) (cls := cls) (μ := μ) (σ := σ) (f := upd (σ i) x.toNatClampNeg (vp_nar .char v)) hT (Nat.le_refl 1)
  rw [e1] at hP hD
  exact K p l e R s m args below meth c dC dI cls ad0 A Qf C F ad H1 locs1 ls h1 h2 ⟨hP, hD, hS, hH.2.2.2⟩ hl
theorem e_last {i N : Nat} {fs : List (Option Nat)} {x : Int32} {v : Int64} (hd : decode cc pc = .ok (.lastore, 1)) (hT : T[i]? = some (.inr (2, N, fs))) (hx : vp_in x N)
    (K : Ev own cc nL d mc ms nm rt ex n0 Rq k n (pc + 1) lv st T σ (lrow μ i (vp_updL (μ i) x.toNatClampNeg v))) : Ev own cc nL d mc ms nm rt ex n0 Rq k n pc lv (.long v :: .int x :: .ref i :: st) T σ μ := by
  intro p l e R s m args below meth c dC dI cls ad0 A Qf C F ad H locs ls h1 h2 hH hl
  refine va_last (D := (dC, dI)) C.1 C.2.1 C.2.2.2.2.2.2.2.2.2.2.2.1.1 hH.1 hH.2.1 hH.2.2.1 i 2 (ev_w_getA hT) rfl hx hd (fun H1 locs1 hP hD hS => ?_)
  have e1 := ev_set_larr (ad := ad) (cls := cls) (μ := μ) (σ := σ) (f := vp_updL (μ i) x.toNatClampNeg v) hT
  rw [e1] at hP hD
  exact K p l e R s m args below meth c dC dI cls ad0 A Qf C F ad H1 locs1 ls h1 h2 ⟨hP, hD, hS, hH.2.2.2⟩ hl
theorem e_alen {i N ty : Nat} {fs : List (Option Nat)} (hd : decode cc pc = .ok (.arraylength, 1)) (hT : T[i]? = some (.inr (ty, N, fs))) (hty : ty < 6)
    (K : Ev own cc nL d mc ms nm rt ex n0 Rq k n (pc + 1) lv (.int (Int32.ofNat N) :: st) T σ μ) : Ev own cc nL d mc ms nm rt ex n0 Rq k n pc lv (.ref i :: st) T σ μ := by
  intro p l e R s m args below meth c dC dI cls ad0 A Qf C F ad H locs ls h1 h2 hH hl
  have hK := C.2.2.2.2.2.2.2.2.2.2.2.1.1
  have hv : Int32.ofNat (ev_a ad σ μ i ty N fs).1 = Int32.ofNat N := rfl
  match ty, hty with
  | 0, _ => exact va_alen (D := (dC, dI)) C.1 C.2.1 hK hH.1 i 0 (ev_w_getA hT) rfl hv hd (K p l e R s m args below meth c dC dI cls ad0 A Qf C F ad H locs ls h1 h2 hH hl)
  | 1, _ => exact va_alen (D := (dC, dI)) C.1 C.2.1 hK hH.1 i 1 (ev_w_getA hT) rfl hv hd (K p l e R s m args below meth c dC dI cls ad0 A Qf C F ad H locs ls h1 h2 hH hl)
  | 2, _ => exact va_alen (D := (dC, dI)) C.1 C.2.1 hK hH.1 i 2 (ev_w_getA hT) rfl hv hd (K p l e R s m args below meth c dC dI cls ad0 A Qf C F ad H locs ls h1 h2 hH hl)
  | 3, _ => exact va_alen (D := (dC, dI)) C.1 C.2.1 hK hH.1 i 3 (ev_w_getA hT) rfl hv hd (K p l e R s m args below meth c dC dI cls ad0 A Qf C F ad H locs ls h1 h2 hH hl)
  | 4, _ => exact va_alen (D := (dC, dI)) C.1 C.2.1 hK hH.1 i 4 (ev_w_getA hT) rfl hv hd (K p l e R s m args below meth c dC dI cls ad0 A Qf C F ad H locs ls h1 h2 hH hl)
  | 5, _ => exact va_alen (D := (dC, dI)) C.1 C.2.1 hK hH.1 i 5 (ev_w_getA hT) rfl hv hd (K p l e R s m args below meth c dC dI cls ad0 A Qf C F ad H locs ls h1 h2 hH hl)
theorem e_aald {i N ty r : Nat} {fs : List (Option Nat)} {x : Int32} (hd : decode cc pc = .ok (.aaload, 1)) (hT : T[i]? = some (.inr (ty, N, fs))) (hty : ty = 3 ∨ ty = 4 ∨ ty = 5) (hx : vp_in x N) (hr : fs[x.toNatClampNeg]? = some (some r))
    (K : Ev own cc nL d mc ms nm rt ex n0 Rq k n (pc + 1) lv (.ref r :: st) T σ μ) : Ev own cc nL d mc ms nm rt ex n0 Rq k n pc lv (.int x :: .ref i :: st) T σ μ := by
  intro p l e R s m args below meth c dC dI cls ad0 A Qf C F ad H locs ls h1 h2 hH hl
  have hK := C.2.2.2.2.2.2.2.2.2.2.2.1.1
  have hlt : x.toNatClampNeg < N := Nat.not_le.mp fun q => hx (Or.inr q)
  have hg := ev_w_getA (ad := ad) (cls := cls) (σ := σ) (μ := μ) hT
  rw [ev_a_ref (by omega)] at hg
  have hv : va_rf ((fs.getD x.toNatClampNeg none).map ad) = .ref (ad r) := by rw [List.getD_eq_getElem?_getD, hr]; rfl
  have hcell := hH.1 i _ hg
  have kk := K p l e R s m args below meth c dC dI cls ad0 A Qf C F ad H locs ls h1 h2 hH hl
  have hsz : ∀ z : Nat → Value, ¬ (x < 0 ∨ (arrV (cls ty) N z).slots.size ≤ x.toNatClampNeg) := fun z => by rw [arrV_size]; exact hx
  rcases hty with rfl | rfl | rfl
  · exact W.aald (v := .ref (ad r)) (ty := .array .int) C.1 C.2.1 hcell ((hK.2 3 _ rfl).1 N (fun j => va_rf ((fs.getD j none).map ad))) rfl (fun q => by cases q) (hsz _) (by show (arrV _ _ _).slots[_]? = _; rw [arrV_read _ _ hlt, hv]) rfl rfl hd kk
  · exact W.aald (v := .ref (ad r)) (ty := .array .long) C.1 C.2.1 hcell ((hK.2 4 _ rfl).1 N (fun j => va_rf ((fs.getD j none).map ad))) rfl (fun q => by cases q) (hsz _) (by show (arrV _ _ _).slots[_]? = _; rw [arrV_read _ _ hlt, hv]) rfl rfl hd kk
  · exact W.aald (v := .ref (ad r)) (ty := .object "RepairGroups$Span") C.1 C.2.1 hcell ((hK.2 5 _ rfl).1 N (fun j => va_rf ((fs.getD j none).map ad))) rfl (fun q => by cases q) (hsz _) (by show (arrV _ _ _).slots[_]? = _; rw [arrV_read _ _ hlt, hv]) rfl rfl hd kk
theorem e_xald {i N : Nat} {f : Nat → Int32} {x : Int32} (hd : decode cc pc = .ok (.iaload, 1)) (hT : (i, N, f) ∈ ex) (hx : vp_in x N)
    (K : Ev own cc nL d mc ms nm rt ex n0 Rq k n (pc + 1) lv (.int (f x.toNatClampNeg) :: st) T σ μ) : Ev own cc nL d mc ms nm rt ex n0 Rq k n pc lv (.int x :: .ref i :: st) T σ μ := by
  intro p l e R s m args below meth c dC dI cls ad0 A Qf C F ad H locs ls h1 h2 hH hl
  obtain ⟨c1, c2, c3, c4, c5, c6, c7, c8, c9, c10, c11, c12, c13⟩ := id C
  obtain ⟨g1, g2, g3, g4⟩ := c13.2.2 _ hT
  have e1 : ad i = ad0 i := h1 i (Or.inr g4)
  have kk := K p l e R s m args below meth c dC dI cls ad0 A Qf C F ad H locs ls h1 h2 hH hl
  exact va_sld C.1 C.2.1 (b := ad i) (L := N) (xs := f) (by rw [e1]; exact g1) (by rw [e1]; exact g2) (by rw [e1]; exact g3) hH.2.2.1 hx hd kk
theorem e_xlen {i N : Nat} {f : Nat → Int32} (hd : decode cc pc = .ok (.arraylength, 1)) (hT : (i, N, f) ∈ ex)
    (K : Ev own cc nL d mc ms nm rt ex n0 Rq k n (pc + 1) lv (.int (Int32.ofNat N) :: st) T σ μ) : Ev own cc nL d mc ms nm rt ex n0 Rq k n pc lv (.ref i :: st) T σ μ := by
  intro p l e R s m args below meth c dC dI cls ad0 A Qf C F ad H locs ls h1 h2 hH hl
  obtain ⟨c1, c2, c3, c4, c5, c6, c7, c8, c9, c10, c11, c12, c13⟩ := id C
  obtain ⟨g1, g2, g3, g4⟩ := c13.2.2 _ hT
  have e1 : ad i = ad0 i := h1 i (Or.inr g4)
  have kk := K p l e R s m args below meth c dC dI cls ad0 A Qf C F ad H locs ls h1 h2 hH hl
  exact va_slen C.1 C.2.1 (b := ad i) (L := N) (xs := f) (by rw [e1]; exact g1) (by rw [e1]; exact g2) (by rw [e1]; exact g3) hH.2.2.1 hd kk
theorem e_above {idx : Nat} (hd : decode cc pc = .ok (.getstatic idx, 3)) (hk : Cond.fieldLink own idx "RepairGroups" "ABOVE" "[I" ∈ ev_ws)
    (K : Ev own cc nL d mc ms nm rt ex n0 Rq k n (pc + 3) lv (.ref 1000 :: st) T σ μ) : Ev own cc nL d mc ms nm rt ex n0 Rq k n pc lv st T σ μ := by
  intro p l e R s m args below meth c dC dI cls ad0 A Qf C F ad H locs ls h1 h2 hH hl
  have kk := K p l e R s m args below meth c dC dI cls ad0 A Qf C F ad H locs ls h1 h2 hH hl
  obtain ⟨c1, c2, c3, c4, c5, c6, c7, c8, c9, c10, c11, c12, c13⟩ := id C
  exact va_gets c1 c2 c13.1 hH.2.2.1 C.2.2.2.1 (C.2.2.2.2.1 _ hk) (fun _ h => h) hd (by rw [← h1 1000 (Or.inr (Nat.le_refl _))]; exact kk)
theorem ev_copyroom {R : Room} {ad : Nat → Nat} (hst : (st.map fun v => v.category).sum ≤ 8) (c8 : 60 * d ≤ R.locals) (hd2 : 2 ≤ d) : ((st.map (ev_v ad)).map fun v => v.category).sum + (nativeFrameWords "java/lang/System" "arraycopy" 5 + 11) ≤ R.locals := by
  have h9 : nativeFrameWords "java/lang/System" "arraycopy" 5 + 11 ≤ 60 := by decide +kernel
  rw [ev_cats]
  omega
theorem e_acopy {i j Ni Nj idx : Nat} {fi fj : List (Option Nat)} {sp dp q : Int32} (hd : decode cc pc = .ok (.invokestatic idx, 3)) (hk : Cond.methodLink own idx arraycopyName ∈ ev_ws) (hi : T[i]? = some (.inr (0, Ni, fi))) (hj : T[j]? = some (.inr (0, Nj, fj)))
    (g1 : ¬ sp < 0) (g2 : ¬ dp < 0) (g3 : ¬ q < 0) (g4 : sp.toNatClampNeg + q.toNatClampNeg ≤ Ni) (g5 : dp.toNatClampNeg + q.toNatClampNeg ≤ Nj) (hd2 : 2 ≤ d) (hst : (st.map fun v => v.category).sum ≤ 8)
    (K : Ev own cc nL d mc ms nm rt ex n0 Rq k n (pc + 3) lv st T (srow σ j (va_cpy (σ i) (σ j) sp.toNatClampNeg dp.toNatClampNeg q.toNatClampNeg)) μ) : Ev own cc nL d mc ms nm rt ex n0 Rq k n pc lv (.int q :: .int dp :: .ref j :: .int sp :: .ref i :: st) T σ μ := by
  intro p l e R s m args below meth c dC dI cls ad0 A Qf C F ad H locs ls h1 h2 hH hl
  obtain ⟨c1, c2, c3, c4, c5, c6, c7, c8, c9, c10, c11, c12, c13⟩ := id C
  refine va_copyi (D := (dC, dI)) c1 c2 (c3.trans hl.1.symm) c4 (c5 _ hk) (c5 _ ka_n) (c5 _ ka_s) (c5 _ kz_J10) c12.1 hH.1 hH.2.1 hH.2.2.1 i j 0 0 (ev_w_getA hi) (ev_w_getA hj) (ty := .int) rfl rfl rfl g1 g2 g3 g4 g5 (fun _ _ => rfl) (by omega) (ev_copyroom hst c8 hd2) hd (fun H1 locs1 hP hD hS => ?_)
  have e1 := ev_set_arr (ad := ad) (cls := cls) (μ := μ) (σ := σ) (f := va_cpy (σ i) (σ j) sp.toNatClampNeg dp.toNatClampNeg q.toNatClampNeg) hj (Nat.zero_le 1)
  rw [e1] at hP hD
  exact K p l e R s m args below meth c dC dI cls ad0 A Qf C F ad H1 locs1 ls h1 h2 ⟨hP, hD, hS, hH.2.2.2⟩ hl
theorem e_lcopy {i j Ni Nj idx : Nat} {fi fj : List (Option Nat)} {sp dp q : Int32} (hd : decode cc pc = .ok (.invokestatic idx, 3)) (hk : Cond.methodLink own idx arraycopyName ∈ ev_ws) (hi : T[i]? = some (.inr (2, Ni, fi))) (hj : T[j]? = some (.inr (2, Nj, fj)))
    (g1 : ¬ sp < 0) (g2 : ¬ dp < 0) (g3 : ¬ q < 0) (g4 : sp.toNatClampNeg + q.toNatClampNeg ≤ Ni) (g5 : dp.toNatClampNeg + q.toNatClampNeg ≤ Nj) (hd2 : 2 ≤ d) (hst : (st.map fun v => v.category).sum ≤ 8)
    (K : Ev own cc nL d mc ms nm rt ex n0 Rq k n (pc + 3) lv st T σ (lrow μ j (va_cpy (μ i) (μ j) sp.toNatClampNeg dp.toNatClampNeg q.toNatClampNeg))) : Ev own cc nL d mc ms nm rt ex n0 Rq k n pc lv (.int q :: .int dp :: .ref j :: .int sp :: .ref i :: st) T σ μ := by
  intro p l e R s m args below meth c dC dI cls ad0 A Qf C F ad H locs ls h1 h2 hH hl
  obtain ⟨c1, c2, c3, c4, c5, c6, c7, c8, c9, c10, c11, c12, c13⟩ := id C
  refine va_copyl (D := (dC, dI)) c1 c2 (c3.trans hl.1.symm) c4 (c5 _ hk) (c5 _ ka_n) (c5 _ ka_s) (c5 _ kz_J10) c12.1 hH.1 hH.2.1 hH.2.2.1 i j 2 2 (ev_w_getA hi) (ev_w_getA hj) (ty := .long) rfl rfl rfl g1 g2 g3 g4 g5 (fun _ _ => rfl) (by omega) (ev_copyroom hst c8 hd2) hd (fun H1 locs1 hP hD hS => ?_)
  have e1 := ev_set_larr (ad := ad) (cls := cls) (μ := μ) (σ := σ) (f := va_cpy (μ i) (μ j) sp.toNatClampNeg dp.toNatClampNeg q.toNatClampNeg) hj
  rw [e1] at hP hD
  exact K p l e R s m args below meth c dC dI cls ad0 A Qf C F ad H1 locs1 ls h1 h2 ⟨hP, hD, hS, hH.2.2.2⟩ hl
theorem e_mmax {idx : Nat} {x y : Int32} (hd : decode cc pc = .ok (.invokestatic idx, 3)) (hk : ev_cvS own idx yJ9_max_7cf53 cJ9_max_7cf53 2 (some .int) 2) (hd2 : 2 ≤ d) (hst : (st.map fun v => v.category).sum ≤ 8) (hk2 : k ≤ mc) (hn2 : n ≤ ms)
    (K : Ev own cc nL d mc ms nm rt ex n0 Rq k n (pc + 3) lv (.int (if x < y then y else x) :: st) T σ μ) : Ev own cc nL d mc ms nm rt ex n0 Rq k n pc lv (.int y :: .int x :: st) T σ μ := by
  intro p l e R s m args below meth c dC dI cls ad0 A Qf C F ad H locs ls h1 h2 hH hl
  obtain ⟨c1, c2, c3, c4, c5, c6, c7, c8, c9, c10, c11, c12, c13⟩ := id C
  obtain ⟨⟨b1, b2, b3, -, -⟩, b4⟩ := hk
  exact va_mmax c1 c2 (c3.trans hl.1.symm) c4 (c5 _ b1) (c5 _ b4) (c5 _ b3) (c5 _ b2) (by omega) (by rw [ev_cats]; omega) (by omega) (by omega) hd (K p l e R s m args below meth c dC dI cls ad0 A Qf C F ad H locs ls h1 h2 hH hl)
theorem e_mmin {idx : Nat} {x y : Int32} (hd : decode cc pc = .ok (.invokestatic idx, 3)) (hk : ev_cvS own idx yJ9_min_7cf53 cJ9_min_7cf53 2 (some .int) 2) (hd2 : 2 ≤ d) (hst : (st.map fun v => v.category).sum ≤ 8) (hk2 : k ≤ mc) (hn2 : n ≤ ms)
    (K : Ev own cc nL d mc ms nm rt ex n0 Rq k n (pc + 3) lv (.int (if y < x then y else x) :: st) T σ μ) : Ev own cc nL d mc ms nm rt ex n0 Rq k n pc lv (.int y :: .int x :: st) T σ μ := by
  intro p l e R s m args below meth c dC dI cls ad0 A Qf C F ad H locs ls h1 h2 hH hl
  obtain ⟨c1, c2, c3, c4, c5, c6, c7, c8, c9, c10, c11, c12, c13⟩ := id C
  obtain ⟨⟨b1, b2, b3, -, -⟩, b4⟩ := hk
  exact va_mmin c1 c2 (c3.trans hl.1.symm) c4 (c5 _ b1) (c5 _ b4) (c5 _ b3) (c5 _ b2) (by omega) (by rw [ev_cats]; omega) (by omega) (by omega) hd (K p l e R s m args below meth c dC dI cls ad0 A Qf C F ad H locs ls h1 h2 hH hl)
theorem e_labs {idx : Nat} {x : Int64} (hd : decode cc pc = .ok (.invokestatic idx, 3)) (hk : ev_cvS own idx yJ9_abs_067f4 cJ9_abs_067f4 2 (some .long) 1) (hd2 : 2 ≤ d) (hst : (st.map fun v => v.category).sum ≤ 8) (hk2 : k ≤ mc) (hn2 : n ≤ ms)
    (K : Ev own cc nL d mc ms nm rt ex n0 Rq k n (pc + 3) lv (.long (if 0 < x then x else -x) :: st) T σ μ) : Ev own cc nL d mc ms nm rt ex n0 Rq k n pc lv (.long x :: st) T σ μ := by
  intro p l e R s m args below meth c dC dI cls ad0 A Qf C F ad H locs ls h1 h2 hH hl
  obtain ⟨c1, c2, c3, c4, c5, c6, c7, c8, c9, c10, c11, c12, c13⟩ := id C
  obtain ⟨⟨b1, b2, b3, -, -⟩, b4⟩ := hk
  exact va_mabs_long c1 c2 (c3.trans hl.1.symm) c4 (c5 _ b1) (c5 _ b4) (c5 _ b3) (c5 _ b2) (by omega) (by rw [ev_cats]; omega) (by omega) (by omega) hd (K p l e R s m args below meth c dC dI cls ad0 A Qf C F ad H locs ls h1 h2 hH hl)
end EVH
