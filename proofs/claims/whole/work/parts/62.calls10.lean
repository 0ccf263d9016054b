/-! CALLS of the class: lists, put, look, lays, from, judge -/
section C62
variable {sc : Nat × (Nat → Int32)} {m : Nat → Int → Int} {r : Nat → Nat → Value} {T : jx_H} {σ : jx_H}
def aPut (A : aT) (x y z : Int) : Int × aT := if 0 ≤ x ∧ x < 3 then (if (aL A x.toNat).2 < 0 then (-11, A) else if 0 ≤ y ∧ y < (aL A x.toNat).2 then (1, sL A x.toNat (ju (aL A x.toNat).1 y z, (aL A x.toNat).2)) else (-13, A)) else aRef A (-1)
def aLook (A : aT) (x y : Int) : Int × aT := if 0 ≤ x ∧ x < 3 then (if (aL A x.toNat).2 < 0 then (4000000000000000011, A) else if 0 ≤ y ∧ y < (aL A x.toNat).2 then ((aL A x.toNat).1 y, A) else (4000000000000000013, A)) else aFarL A (-1)
def fLay (f L : Int → Int) (y n : Int) : Int → Int := fun p => if y ≤ p ∧ p < y + n then L (p - y) else f p
def aLays (A : aT) (x y z : Int) : Int × aT := if (0 ≤ x ∧ x < 3) ∧ (0 ≤ z ∧ z < (aC A : Int)) then (if (aL A x.toNat).2 < 0 then (-11, A) else if 0 ≤ y ∧ y ≤ (aL A x.toNat).2 - aN A then (aN A, sL A x.toNat (fLay (aL A x.toNat).1 (aW A z.toNat).1 y (aN A), (aL A x.toNat).2)) else (-13, A)) else aRef A (-1)
def aFrom (A : aT) (x y : Int) : Int × aT := if (0 ≤ x ∧ x < 3) ∧ fHas (aS A) (aN A) y = true then (if aC A < 6 then (if (aL A x.toNat).2 < 0 then (-11, A) else if fBT (aN A) (aK A) (aL A x.toNat).1 (aL A x.toNat).2 = true then ((aC A : Int), sAdd A (fRAt (aL A x.toNat).1 (aL A x.toNat).2, y)) else aRef A (-3)) else aRef A (-6)) else aRef A (-1)
def jP1 (n : Int) (f L : Int → Int) (i : Nat) : Bool := decide (n ≤ (i : Int)) || decide (f (i : Int) ≠ L (i : Int))
def jJ (n : Int) (f L : Int → Int) (z : Int) : Int := if fFst (jP1 n f L) 0 z.toNat < z.toNat then (fFst (jP1 n f L) 0 z.toNat : Int) else -9
def aJudge (A : aT) (x y : Int) : Int × aT := if (0 ≤ x ∧ x < 3) ∧ (0 ≤ y ∧ y < (aC A : Int)) then (if (aL A x.toNat).2 < 0 then (-11, A) else (jJ (aN A) (aL A x.toNat).1 (aW A y.toNat).1 (aL A x.toNat).2, A)) else aRef A (-1)
theorem fRAt_c {f g : Int → Int} {z : Int} (h : ∀ p : Int, 0 ≤ p → p < z → f p = g p) : fRAt f z = fRAt g z := by
  funext p
  unfold fRAt
  by_cases c : 0 ≤ p ∧ p < z
  · rw [if_pos c, if_pos c, h p c.1 c.2]
  · rw [if_neg c, if_neg c]
theorem fBT_c {n k : Int} {f g : Int → Int} {z : Int} (h : ∀ p : Int, 0 ≤ p → p < z → f p = g p) : fBT n k f z = fBT n k g z := by
  unfold fBT
  rw [fRAt_c h]
theorem ju_b {f : Int → Int} {y z : Int} (hf : ∀ p, -2147483648 ≤ f p ∧ f p ≤ 2147483647) (hz : -2147483648 ≤ z ∧ z ≤ 2147483647) : ∀ p, -2147483648 ≤ ju f y z p ∧ ju f y z p ≤ 2147483647 := by
  intro p
  unfold ju
  split
  · exact hz
  · exact hf p
theorem fLay_0 (f L : Int → Int) (y : Int) : fLay f L y 0 = f := by
  funext p
  unfold fLay
  rw [if_neg (by omega)]
theorem fLay_s (f L : Int → Int) (y : Int) (v : Nat) : ju (fLay f L y (v : Int)) (y + (v : Int)) (L (v : Int)) = fLay f L y ((v + 1 : Nat) : Int) := by
  funext p
  unfold fLay ju
  by_cases h1 : p = y + (v : Int)
  · rw [if_pos h1, if_pos (by omega), h1, show y + (v : Int) - y = (v : Int) by omega]
  · rw [if_neg h1]
    by_cases h2 : y ≤ p ∧ p < y + (v : Int)
    · show (if y ≤ p ∧ p < y + (v : Int) then L (p - y) else f p) = _
      rw [if_pos h2, if_pos (by omega)]
    · show (if y ≤ p ∧ p < y + (v : Int) then L (p - y) else f p) = _
      rw [if_neg h2, if_neg (by omega)]
theorem fLay_b {f L : Int → Int} {y n : Int} (hf : ∀ p, -2147483648 ≤ f p ∧ f p ≤ 2147483647) (hL : ∀ p, 0 ≤ L p ∧ L p < 100) : ∀ p, -2147483648 ≤ fLay f L y n p ∧ fLay f L y n p ≤ 2147483647 := by
  intro p
  unfold fLay
  split
  · have := hL (p - y)
    omega
  · exact hf p
theorem fLay_e {f g L : Int → Int} {y n z : Int} (h : ∀ p : Int, 0 ≤ p → p < z → f p = g p) : ∀ p : Int, 0 ≤ p → p < z → fLay f L y n p = fLay g L y n p := by
  intro p p0 p1
  unfold fLay
  split
  · rfl
  · exact h p p0 p1
theorem fRAt_w {n k z e : Int} {f : Int → Int} {s : Int} (h : fS s n k) (hb : fBT n k f z = true) (h0 : 0 ≤ z) (he : fHas s n e = true) : wOkk s n k (fRAt f z, e) := by
  unfold fBT at hb
  rw [Bool.and_eq_true, decide_eq_true_eq] at hb
  have gk : 2 ≤ k ∧ k ≤ 5 := h.2
  have gn := fS_n h
  have h2 := hb.2
  rw [fAll_iff] at h2
  refine ⟨⟨fun p => ?_, fun p hp => ?_⟩, fHas_t he, fun p hp => ?_⟩
  · show 0 ≤ fRAt f z p ∧ fRAt f z p < k
    by_cases c : 0 ≤ p ∧ p < z
    · have := of_decide_eq_true (h2 p.toNat (by omega))
      rw [show ((p.toNat : Nat) : Int) = p by omega] at this
      exact this
    · unfold fRAt
      rw [if_neg c]
      omega
  · show fRAt f z p = 0
    unfold fRAt
    rw [if_neg (by omega)]
  · show fRAt f z p = 0
    unfold fRAt
    rw [if_neg (by omega)]
theorem cl_put_n {A : aT} (I : iC A m r T) {x y z : Int} (hl : ¬ (0 ≤ x ∧ x < 3)) (hx : -2147483648 ≤ x ∧ x ≤ 2147483647) (hy : -2147483648 ≤ y ∧ y ≤ 2147483647) (hzz : -2147483648 ≤ z ∧ z ≤ 2147483647) : jq sc 10 jm_X11_put [.ref 0, .int (jI x), .int (jI y), .int (jI z)] (jh m r T) (cQ (aPut A x y z) m T) := by
  have c6 := I.c6
  have fs := I.fs
  refine je_in jb_X11_put rfl (ls := [_, _, _, _, _]) rfl ?_
  refine je_ps jb_X11_put 2 (pc' := 2) (ls' := [_, _, _, _, _]) (st' := [_, _]) rfl ?_
  refine je_cvP' jb_X11_put rfl (pc' := 5) rfl (jh_at (a := 0) rfl) (by rfl) (by first | decide | exact Nat.ble_eq_true_of_le (by omega)) (c_X11_isList (by omega)) (st' := [_]) rfl ?_
  rw [decide_eq_false hl]
  refine je_ifneb jb_X11_put rfl (t := 14) rfl (pc' := 8) rfl (fun c5 => ?_) (fun c5 => ?_)
  · first | (exfalso; omega) | (cases c5; done) | (exfalso; simp_all; done)
  · refine je_ps jb_X11_put 2 (pc' := 10) (ls' := [_, _, _, _, _]) (st' := [_, _]) rfl ?_
    refine je_cvP' jb_X11_put rfl (pc' := 13) rfl (jh_at (a := 0) rfl) (by rfl) (by first | decide | exact Nat.ble_eq_true_of_le (by omega)) (c_X11_refuse (by omega)) (st' := [_]) rfl ?_
    rw [show aPut A x y z = aRef A (-1) from by unfold aPut; rw [if_neg hl]]
    exact je_ret jb_X11_put rfl (by rfl) ⟨_, _, _, rfl, rfl, I.ref (by omega), kG.ref m _, tG.rfl' T⟩
theorem cl_put_q {A : aT} (I : iC A m r T) {x y z : Int} (hl : 0 ≤ x ∧ x < 3) (hz : (aL A x.toNat).2 < 0) (hx : -2147483648 ≤ x ∧ x ≤ 2147483647) (hy : -2147483648 ≤ y ∧ y ≤ 2147483647) (hzz : -2147483648 ≤ z ∧ z ≤ 2147483647) : jq sc 10 jm_X11_put [.ref 0, .int (jI x), .int (jI y), .int (jI z)] (jh m r T) (cQ (aPut A x y z) m T) := by
  have c6 := I.c6
  have fs := I.fs
  obtain ⟨t, u, f, W⟩ := I.ls
  have W : lW A r T t u f := W
  have lb := I.lb (l := x.toNat) (by omega)
  refine je_in jb_X11_put rfl (ls := [_, _, _, _, _]) rfl ?_
  refine je_ps jb_X11_put 2 (pc' := 2) (ls' := [_, _, _, _, _]) (st' := [_, _]) rfl ?_
  refine je_cvP' jb_X11_put rfl (pc' := 5) rfl (jh_at (a := 0) rfl) (by rfl) (by first | decide | exact Nat.ble_eq_true_of_le (by omega)) (c_X11_isList (by omega)) (st' := [_]) rfl ?_
  rw [decide_eq_true hl]
  refine je_ifneb jb_X11_put rfl (t := 14) rfl (pc' := 8) rfl (fun c5 => ?_) (fun c5 => ?_)
  · refine je_ps jb_X11_put 2 (pc' := 16) (ls' := [_, _, _, _, _]) (st' := [_, _]) rfl ?_
    refine je_cvP' jb_X11_put rfl (pc' := 19) rfl (jh_at (a := 0) rfl) (by rfl) (by first | decide | exact Nat.ble_eq_true_of_le (by omega)) (lAt_n W hl hz) (st' := [_]) rfl ?_
    refine je_ps jb_X11_put 2 (pc' := 23) (ls' := [_, _, _, _, _]) (st' := [_]) rfl ?_
    refine je_ifnonnullN jb_X11_put rfl (t := 29) rfl (pc' := 26) rfl ?_
    refine je_ps jb_X11_put 1 (pc' := 28) (ls' := [_, _, _, _, _]) (st' := [_]) rfl ?_
    rw [show aPut A x y z = (-11, A) from by unfold aPut; rw [if_pos hl, if_pos hz]]
    exact je_ret jb_X11_put rfl (by rfl) ⟨_, _, _, rfl, rfl, I, kG.rfl' m, tG.rfl' T⟩
  · first | (exfalso; omega) | (cases c5; done) | (exfalso; simp_all; done)
theorem cl_put_p {A : aT} (I : iC A m r T) {x y z : Int} (hl : 0 ≤ x ∧ x < 3) (hz : 0 ≤ (aL A x.toNat).2) (hx : -2147483648 ≤ x ∧ x ≤ 2147483647) (hy : -2147483648 ≤ y ∧ y ≤ 2147483647) (hzz : -2147483648 ≤ z ∧ z ≤ 2147483647) : jq sc 10 jm_X11_put [.ref 0, .int (jI x), .int (jI y), .int (jI z)] (jh m r T) (cQ (aPut A x y z) m T) := by
  have c6 := I.c6
  have fs := I.fs
  obtain ⟨t, u, f, W⟩ := I.ls
  have W : lW A r T t u f := W
  have lb := I.lb (l := x.toNat) (by omega)
  obtain ⟨w1, gT, w3, w4⟩ := W.at (l := x.toNat) (by omega) hz
  refine je_in jb_X11_put rfl (ls := [_, _, _, _, _]) rfl ?_
  refine je_ps jb_X11_put 2 (pc' := 2) (ls' := [_, _, _, _, _]) (st' := [_, _]) rfl ?_
  refine je_cvP' jb_X11_put rfl (pc' := 5) rfl (jh_at (a := 0) rfl) (by rfl) (by first | decide | exact Nat.ble_eq_true_of_le (by omega)) (c_X11_isList (by omega)) (st' := [_]) rfl ?_
  rw [decide_eq_true hl]
  refine je_ifneb jb_X11_put rfl (t := 14) rfl (pc' := 8) rfl (fun c5 => ?_) (fun c5 => ?_)
  · refine je_ps jb_X11_put 2 (pc' := 16) (ls' := [_, _, _, _, _]) (st' := [_, _]) rfl ?_
    refine je_cvP' jb_X11_put rfl (pc' := 19) rfl (jh_at (a := 0) rfl) (by rfl) (by first | decide | exact Nat.ble_eq_true_of_le (by omega)) (lAt_t W hl hz) (st' := [_]) rfl ?_
    refine je_ps jb_X11_put 2 (pc' := 23) (ls' := [_, _, _, _, _]) (st' := [_]) rfl ?_
    refine je_ifnonnullR jb_X11_put rfl (t := 29) rfl (pc' := 26) rfl ?_
    refine je_ps jb_X11_put 2 (pc' := 32) (ls' := [_, _, _, _, _]) (st' := [_, _]) rfl ?_
    refine je_cvP' jb_X11_put rfl (pc' := 35) rfl ((jTr.rw gT).1) (by rfl) (by first | decide | exact Nat.ble_eq_true_of_le (by omega)) (k_rhas (jTr.rw gT) hy) (st' := [_]) rfl ?_
    unfold fRH
    refine je_ifneb jb_X11_put rfl (t := 41) rfl (pc' := 38) rfl (fun c35 => ?_) (fun c35 => ?_)
    · refine je_ps jb_X11_put 3 (pc' := 45) (ls' := [_, _, _, _, _]) (st' := [_, _, _]) rfl ?_
      refine je_cvP' jb_X11_put rfl (pc' := 48) rfl ((jTr.rw gT).1) (by rfl) (by first | decide | exact Nat.ble_eq_true_of_le (by omega)) (kT_set gT (of_decide_eq_true c35)) (st' := []) rfl ?_
      refine je_ps jb_X11_put 1 (pc' := 49) (ls' := [_, _, _, _, _]) (st' := [_]) rfl ?_
      rw [show aPut A x y z = (1, sL A x.toNat (ju (aL A x.toNat).1 y z, (aL A x.toNat).2)) from by unfold aPut; rw [if_pos hl, if_neg (by omega), if_pos (of_decide_eq_true c35)]]
      exact je_ret jb_X11_put rfl (by rfl) ⟨_, _, _, rfl, rfl, I.lset W (by omega) hz hz (by omega) (ju_b w3 hzz) (ju_b lb.2 hzz) (fun p p0 p1 => by unfold ju; split; rfl; exact w4 p p0 p1), kG.rfl' m, tG.ts gT _ _⟩
    · refine je_ps jb_X11_put 1 (pc' := 40) (ls' := [_, _, _, _, _]) (st' := [_]) rfl ?_
      rw [show aPut A x y z = (-13, A) from by unfold aPut; rw [if_pos hl, if_neg (by omega), if_neg (of_decide_eq_false c35)]]
      exact je_ret jb_X11_put rfl (by rfl) ⟨_, _, _, rfl, rfl, I, kG.rfl' m, tG.rfl' T⟩
  · first | (exfalso; omega) | (cases c5; done) | (exfalso; simp_all; done)
theorem cl_put {A : aT} (I : iC A m r T) {x y z : Int} (hx : -2147483648 ≤ x ∧ x ≤ 2147483647) (hy : -2147483648 ≤ y ∧ y ≤ 2147483647) (hzz : -2147483648 ≤ z ∧ z ≤ 2147483647) : jq sc 10 jm_X11_put [.ref 0, .int (jI x), .int (jI y), .int (jI z)] (jh m r T) (cQ (aPut A x y z) m T) := by
  by_cases hl : 0 ≤ x ∧ x < 3
  · by_cases hz : 0 ≤ (aL A x.toNat).2
    · exact cl_put_p I hl hz hx hy hzz
    · exact cl_put_q I hl (by omega) hx hy hzz
  · exact cl_put_n I hl hx hy hzz
theorem cl_look_n {A : aT} (I : iC A m r T) {x y : Int} (hl : ¬ (0 ≤ x ∧ x < 3)) (hx : -2147483648 ≤ x ∧ x ≤ 2147483647) (hy : -2147483648 ≤ y ∧ y ≤ 2147483647) : jq sc 10 jm_X11_look [.ref 0, .int (jI x), .int (jI y)] (jh m r T) (cQl (aLook A x y) m T) := by
  have c6 := I.c6
  have fs := I.fs
  refine je_in jb_X11_look rfl (ls := [_, _, _, _]) rfl ?_
  refine je_ps jb_X11_look 2 (pc' := 2) (ls' := [_, _, _, _]) (st' := [_, _]) rfl ?_
  refine je_cvP' jb_X11_look rfl (pc' := 5) rfl (jh_at (a := 0) rfl) (by rfl) (by first | decide | exact Nat.ble_eq_true_of_le (by omega)) (c_X11_isList (by omega)) (st' := [_]) rfl ?_
  rw [decide_eq_false hl]
  refine je_ifneb jb_X11_look rfl (t := 14) rfl (pc' := 8) rfl (fun c5 => ?_) (fun c5 => ?_)
  · first | (exfalso; omega) | (cases c5; done) | (exfalso; simp_all; done)
  · refine je_ps jb_X11_look 2 (pc' := 10) (ls' := [_, _, _, _]) (st' := [_, _]) rfl ?_
    refine je_cvP' jb_X11_look rfl (pc' := 13) rfl (jh_at (a := 0) rfl) (by rfl) (by first | decide | exact Nat.ble_eq_true_of_le (by omega)) (c_X11_refuseFarLong (by omega)) (st' := [_]) rfl ?_
    rw [show aLook A x y = aFarL A (-1) from by unfold aLook; rw [if_neg hl]]
    exact je_ret jb_X11_look rfl (by rfl) ⟨_, _, _, rfl, rfl, I.ref (by omega), kG.ref m _, tG.rfl' T⟩
theorem cl_look_q {A : aT} (I : iC A m r T) {x y : Int} (hl : 0 ≤ x ∧ x < 3) (hz : (aL A x.toNat).2 < 0) (hx : -2147483648 ≤ x ∧ x ≤ 2147483647) (hy : -2147483648 ≤ y ∧ y ≤ 2147483647) : jq sc 10 jm_X11_look [.ref 0, .int (jI x), .int (jI y)] (jh m r T) (cQl (aLook A x y) m T) := by
  have c6 := I.c6
  have fs := I.fs
  obtain ⟨t, u, f, W⟩ := I.ls
  have W : lW A r T t u f := W
  have lb := I.lb (l := x.toNat) (by omega)
  refine je_in jb_X11_look rfl (ls := [_, _, _, _]) rfl ?_
  refine je_ps jb_X11_look 2 (pc' := 2) (ls' := [_, _, _, _]) (st' := [_, _]) rfl ?_
  refine je_cvP' jb_X11_look rfl (pc' := 5) rfl (jh_at (a := 0) rfl) (by rfl) (by first | decide | exact Nat.ble_eq_true_of_le (by omega)) (c_X11_isList (by omega)) (st' := [_]) rfl ?_
  rw [decide_eq_true hl]
  refine je_ifneb jb_X11_look rfl (t := 14) rfl (pc' := 8) rfl (fun c5 => ?_) (fun c5 => ?_)
  · refine je_ps jb_X11_look 2 (pc' := 16) (ls' := [_, _, _, _]) (st' := [_, _]) rfl ?_
    refine je_cvP' jb_X11_look rfl (pc' := 19) rfl (jh_at (a := 0) rfl) (by rfl) (by first | decide | exact Nat.ble_eq_true_of_le (by omega)) (lAt_n W hl hz) (st' := [_]) rfl ?_
    refine je_ps jb_X11_look 2 (pc' := 21) (ls' := [_, _, _, _]) (st' := [_]) rfl ?_
    refine je_ifnonnullN jb_X11_look rfl (t := 28) rfl (pc' := 24) rfl ?_
    refine je_ps jb_X11_look 1 (pc' := 27) (ls' := [_, _, _, _]) (st' := [_]) rfl ?_
    rw [show aLook A x y = (4000000000000000011, A) from by unfold aLook; rw [if_pos hl, if_pos hz]]
    exact je_ret jb_X11_look rfl (by rfl) ⟨_, _, _, rfl, rfl, I, kG.rfl' m, tG.rfl' T⟩
  · first | (exfalso; omega) | (cases c5; done) | (exfalso; simp_all; done)
theorem cl_look_p {A : aT} (I : iC A m r T) {x y : Int} (hl : 0 ≤ x ∧ x < 3) (hz : 0 ≤ (aL A x.toNat).2) (hx : -2147483648 ≤ x ∧ x ≤ 2147483647) (hy : -2147483648 ≤ y ∧ y ≤ 2147483647) : jq sc 10 jm_X11_look [.ref 0, .int (jI x), .int (jI y)] (jh m r T) (cQl (aLook A x y) m T) := by
  have c6 := I.c6
  have fs := I.fs
  obtain ⟨t, u, f, W⟩ := I.ls
  have W : lW A r T t u f := W
  have lb := I.lb (l := x.toNat) (by omega)
  obtain ⟨w1, gT, w3, w4⟩ := W.at (l := x.toNat) (by omega) hz
  refine je_in jb_X11_look rfl (ls := [_, _, _, _]) rfl ?_
  refine je_ps jb_X11_look 2 (pc' := 2) (ls' := [_, _, _, _]) (st' := [_, _]) rfl ?_
  refine je_cvP' jb_X11_look rfl (pc' := 5) rfl (jh_at (a := 0) rfl) (by rfl) (by first | decide | exact Nat.ble_eq_true_of_le (by omega)) (c_X11_isList (by omega)) (st' := [_]) rfl ?_
  rw [decide_eq_true hl]
  refine je_ifneb jb_X11_look rfl (t := 14) rfl (pc' := 8) rfl (fun c5 => ?_) (fun c5 => ?_)
  · refine je_ps jb_X11_look 2 (pc' := 16) (ls' := [_, _, _, _]) (st' := [_, _]) rfl ?_
    refine je_cvP' jb_X11_look rfl (pc' := 19) rfl (jh_at (a := 0) rfl) (by rfl) (by first | decide | exact Nat.ble_eq_true_of_le (by omega)) (lAt_t W hl hz) (st' := [_]) rfl ?_
    refine je_ps jb_X11_look 2 (pc' := 21) (ls' := [_, _, _, _]) (st' := [_]) rfl ?_
    refine je_ifnonnullR jb_X11_look rfl (t := 28) rfl (pc' := 24) rfl ?_
    refine je_ps jb_X11_look 2 (pc' := 30) (ls' := [_, _, _, _]) (st' := [_, _]) rfl ?_
    refine je_cvP' jb_X11_look rfl (pc' := 33) rfl ((jTr.rw gT).1) (by rfl) (by first | decide | exact Nat.ble_eq_true_of_le (by omega)) (k_rhas (jTr.rw gT) hy) (st' := [_]) rfl ?_
    unfold fRH
    refine je_ifneb jb_X11_look rfl (t := 40) rfl (pc' := 36) rfl (fun c33 => ?_) (fun c33 => ?_)
    · refine je_ps jb_X11_look 2 (pc' := 42) (ls' := [_, _, _, _]) (st' := [_, _]) rfl ?_
      refine je_cvP' jb_X11_look rfl (pc' := 45) rfl ((jTr.rw gT).1) (by rfl) (by first | decide | exact Nat.ble_eq_true_of_le (by omega)) (k_rat (jTr.rw gT) hy) (st' := [_]) rfl ?_
      unfold fRAt
      rw [if_pos (of_decide_eq_true c33)]
      have wb := w3 y
      have c33' := of_decide_eq_true c33
      refine je_i2l jb_X11_look rfl (pc' := 46) rfl (by first | omega | exact (hM _ _).1 | exact (hM _ _).2) (by first | omega | exact (hM _ _).1 | exact (hM _ _).2) ?_
      rw [show aLook A x y = ((aL A x.toNat).1 y, A) from by unfold aLook; rw [if_pos hl, if_neg (by omega), if_pos (of_decide_eq_true c33)]]
      rw [w4 y c33'.1 c33'.2]
      exact je_ret jb_X11_look rfl (by rfl) ⟨_, _, _, rfl, rfl, I, kG.rfl' m, tG.rfl' T⟩
    · refine je_ps jb_X11_look 1 (pc' := 39) (ls' := [_, _, _, _]) (st' := [_]) rfl ?_
      rw [show aLook A x y = (4000000000000000013, A) from by unfold aLook; rw [if_pos hl, if_neg (by omega), if_neg (of_decide_eq_false c33)]]
      exact je_ret jb_X11_look rfl (by rfl) ⟨_, _, _, rfl, rfl, I, kG.rfl' m, tG.rfl' T⟩
  · first | (exfalso; omega) | (cases c5; done) | (exfalso; simp_all; done)
theorem cl_look {A : aT} (I : iC A m r T) {x y : Int} (hx : -2147483648 ≤ x ∧ x ≤ 2147483647) (hy : -2147483648 ≤ y ∧ y ≤ 2147483647) : jq sc 10 jm_X11_look [.ref 0, .int (jI x), .int (jI y)] (jh m r T) (cQl (aLook A x y) m T) := by
  by_cases hl : 0 ≤ x ∧ x < 3
  · by_cases hz : 0 ≤ (aL A x.toNat).2
    · exact cl_look_p I hl hz hx hy
    · exact cl_look_q I hl (by omega) hx hy
  · exact cl_look_n I hl hx hy
theorem jTs_self {t u : Nat} {f : Int → Int} {z : Int} (g : jTr T t u f z) : jTs T t u f z = T := by
  unfold jTs
  rw [jset_self g.2.1, jset_self g.1]
theorem cl_lays_n {A : aT} (I : iC A m r T) {x y z : Int} (hl : ¬ (0 ≤ x ∧ x < 3)) (hx : -2147483648 ≤ x ∧ x ≤ 2147483647) (hy : -2147483648 ≤ y ∧ y ≤ 2147483647) (hzz : -2147483648 ≤ z ∧ z ≤ 2147483647) : jq sc 12 jm_X11_lays [.ref 0, .int (jI x), .int (jI y), .int (jI z)] (jh m r T) (cQ (aLays A x y z) m T) := by
  have c6 := I.c6
  have fs := I.fs
  refine je_in jb_X11_lays rfl (ls := [_, _, _, _, _, _, _, _]) rfl ?_
  refine je_ps jb_X11_lays 1 (pc' := 1) (ls' := [_, _, _, _, _, _, _, _]) (st' := [_]) rfl ?_
  refine je_get jb_X11_lays rfl (pc' := 4) rfl (jh_at (a := 0) rfl) (by rfl) (by rfl) ?_
  refine je_ps jb_X11_lays 1 (pc' := 5) (ls' := [_, _, _, _, _, _, _, _]) (st' := [_, _]) rfl ?_
  refine je_cvP' jb_X11_lays rfl (pc' := 8) rfl (jh_at (a := 1) rfl) (by rfl) (by first | decide | exact Nat.ble_eq_true_of_le (by omega)) (k_walkAt I.c I.c6 hzz) (st' := [_]) rfl ?_
  refine je_mv (fun c5 => ?_) (fun c5 => ?_)
  · skip
    refine je_ps jb_X11_lays 3 (pc' := 12) (ls' := [_, _, _, _, _, _, _, _]) (st' := [_, _]) rfl ?_
    refine je_cvP' jb_X11_lays rfl (pc' := 15) rfl (jh_at (a := 0) rfl) (by rfl) (by first | decide | exact Nat.ble_eq_true_of_le (by omega)) (c_X11_isList (by omega)) (st' := [_]) rfl ?_
    rw [decide_eq_false hl]
    refine je_ifeqb jb_X11_lays rfl (t := 23) rfl (pc' := 18) rfl (fun c15 => ?_) (fun c15 => ?_)
    · refine je_ps jb_X11_lays 2 (pc' := 25) (ls' := [_, _, _, _, _, _, _, _]) (st' := [_, _]) rfl ?_
      refine je_cvP' jb_X11_lays rfl (pc' := 28) rfl (jh_at (a := 0) rfl) (by rfl) (by first | decide | exact Nat.ble_eq_true_of_le (by omega)) (c_X11_refuse (by omega)) (st' := [_]) rfl ?_
      rw [show aLays A x y z = aRef A (-1) from by unfold aLays; rw [if_neg (fun h => hl h.1)]]
      exact je_ret jb_X11_lays rfl (by rfl) ⟨_, _, _, rfl, rfl, I.ref (by omega), kG.ref m _, tG.rfl' T⟩
    · first | (exfalso; omega) | (cases c15; done) | (exfalso; simp_all; done)
  · skip
    have hv : z.toNat < 13 := by omega
    have hvn : z.toNat < aC A := by omega
    have gv := I.wk hvn
    have ov := I.wo hvn
    refine je_ps jb_X11_lays 3 (pc' := 12) (ls' := [_, _, _, _, _, _, _, _]) (st' := [_, _]) rfl ?_
    refine je_cvP' jb_X11_lays rfl (pc' := 15) rfl (jh_at (a := 0) rfl) (by rfl) (by first | decide | exact Nat.ble_eq_true_of_le (by omega)) (c_X11_isList (by omega)) (st' := [_]) rfl ?_
    rw [decide_eq_false hl]
    refine je_ifeqb jb_X11_lays rfl (t := 23) rfl (pc' := 18) rfl (fun c15 => ?_) (fun c15 => ?_)
    · refine je_ps jb_X11_lays 2 (pc' := 25) (ls' := [_, _, _, _, _, _, _, _]) (st' := [_, _]) rfl ?_
      refine je_cvP' jb_X11_lays rfl (pc' := 28) rfl (jh_at (a := 0) rfl) (by rfl) (by first | decide | exact Nat.ble_eq_true_of_le (by omega)) (c_X11_refuse (by omega)) (st' := [_]) rfl ?_
      rw [show aLays A x y z = aRef A (-1) from by unfold aLays; rw [if_neg (fun h => hl h.1)]]
      exact je_ret jb_X11_lays rfl (by rfl) ⟨_, _, _, rfl, rfl, I.ref (by omega), kG.ref m _, tG.rfl' T⟩
    · first | (exfalso; omega) | (cases c15; done) | (exfalso; simp_all; done)
theorem cl_lays_q {A : aT} (I : iC A m r T) {x y z : Int} (hl : 0 ≤ x ∧ x < 3) (hz : (aL A x.toNat).2 < 0) (hx : -2147483648 ≤ x ∧ x ≤ 2147483647) (hy : -2147483648 ≤ y ∧ y ≤ 2147483647) (hzz : -2147483648 ≤ z ∧ z ≤ 2147483647) : jq sc 12 jm_X11_lays [.ref 0, .int (jI x), .int (jI y), .int (jI z)] (jh m r T) (cQ (aLays A x y z) m T) := by
  have c6 := I.c6
  have fs := I.fs
  obtain ⟨t, u, f, W⟩ := I.ls
  have W : lW A r T t u f := W
  have lb := I.lb (l := x.toNat) (by omega)
  refine je_in jb_X11_lays rfl (ls := [_, _, _, _, _, _, _, _]) rfl ?_
  refine je_ps jb_X11_lays 1 (pc' := 1) (ls' := [_, _, _, _, _, _, _, _]) (st' := [_]) rfl ?_
  refine je_get jb_X11_lays rfl (pc' := 4) rfl (jh_at (a := 0) rfl) (by rfl) (by rfl) ?_
  refine je_ps jb_X11_lays 1 (pc' := 5) (ls' := [_, _, _, _, _, _, _, _]) (st' := [_, _]) rfl ?_
  refine je_cvP' jb_X11_lays rfl (pc' := 8) rfl (jh_at (a := 1) rfl) (by rfl) (by first | decide | exact Nat.ble_eq_true_of_le (by omega)) (k_walkAt I.c I.c6 hzz) (st' := [_]) rfl ?_
  refine je_mv (fun c5 => ?_) (fun c5 => ?_)
  · skip
    refine je_ps jb_X11_lays 3 (pc' := 12) (ls' := [_, _, _, _, _, _, _, _]) (st' := [_, _]) rfl ?_
    refine je_cvP' jb_X11_lays rfl (pc' := 15) rfl (jh_at (a := 0) rfl) (by rfl) (by first | decide | exact Nat.ble_eq_true_of_le (by omega)) (c_X11_isList (by omega)) (st' := [_]) rfl ?_
    rw [decide_eq_true hl]
    refine je_ifeqb jb_X11_lays rfl (t := 23) rfl (pc' := 18) rfl (fun c15 => ?_) (fun c15 => ?_)
    · first | (exfalso; omega) | (cases c15; done) | (exfalso; simp_all; done)
    · refine je_ps jb_X11_lays 1 (pc' := 20) (ls' := [_, _, _, _, _, _, _, _]) (st' := [_]) rfl ?_
      refine je_ifnonnullN jb_X11_lays rfl (t := 29) rfl (pc' := 23) rfl ?_
      refine je_ps jb_X11_lays 2 (pc' := 25) (ls' := [_, _, _, _, _, _, _, _]) (st' := [_, _]) rfl ?_
      refine je_cvP' jb_X11_lays rfl (pc' := 28) rfl (jh_at (a := 0) rfl) (by rfl) (by first | decide | exact Nat.ble_eq_true_of_le (by omega)) (c_X11_refuse (by omega)) (st' := [_]) rfl ?_
      rw [show aLays A x y z = aRef A (-1) from by unfold aLays; rw [if_neg (fun h => c5 h.2)]]
      exact je_ret jb_X11_lays rfl (by rfl) ⟨_, _, _, rfl, rfl, I.ref (by omega), kG.ref m _, tG.rfl' T⟩
  · skip
    have hv : z.toNat < 13 := by omega
    have hvn : z.toNat < aC A := by omega
    have gv := I.wk hvn
    have ov := I.wo hvn
    refine je_ps jb_X11_lays 3 (pc' := 12) (ls' := [_, _, _, _, _, _, _, _]) (st' := [_, _]) rfl ?_
    refine je_cvP' jb_X11_lays rfl (pc' := 15) rfl (jh_at (a := 0) rfl) (by rfl) (by first | decide | exact Nat.ble_eq_true_of_le (by omega)) (c_X11_isList (by omega)) (st' := [_]) rfl ?_
    rw [decide_eq_true hl]
    refine je_ifeqb jb_X11_lays rfl (t := 23) rfl (pc' := 18) rfl (fun c15 => ?_) (fun c15 => ?_)
    · first | (exfalso; omega) | (cases c15; done) | (exfalso; simp_all; done)
    · refine je_ps jb_X11_lays 1 (pc' := 20) (ls' := [_, _, _, _, _, _, _, _]) (st' := [_]) rfl ?_
      refine je_ifnonnullR jb_X11_lays rfl (t := 29) rfl (pc' := 23) rfl ?_
      refine je_ps jb_X11_lays 2 (pc' := 31) (ls' := [_, _, _, _, _, _, _, _]) (st' := [_, _]) rfl ?_
      refine je_cvP' jb_X11_lays rfl (pc' := 34) rfl (jh_at (a := 0) rfl) (by rfl) (by first | decide | exact Nat.ble_eq_true_of_le (by omega)) (lAt_n W hl hz) (st' := [_]) rfl ?_
      refine je_ps jb_X11_lays 2 (pc' := 38) (ls' := [_, _, _, _, _, _, _, _]) (st' := [_]) rfl ?_
      refine je_ifnonnullN jb_X11_lays rfl (t := 44) rfl (pc' := 41) rfl ?_
      refine je_ps jb_X11_lays 1 (pc' := 43) (ls' := [_, _, _, _, _, _, _, _]) (st' := [_]) rfl ?_
      rw [show aLays A x y z = (-11, A) from by unfold aLays; rw [if_pos ⟨hl, c5⟩, if_pos hz]]
      exact je_ret jb_X11_lays rfl (by rfl) ⟨_, _, _, rfl, rfl, I, kG.rfl' m, tG.rfl' T⟩
theorem cl_lays_p {A : aT} (I : iC A m r T) {x y z : Int} (hl : 0 ≤ x ∧ x < 3) (hz : 0 ≤ (aL A x.toNat).2) (hx : -2147483648 ≤ x ∧ x ≤ 2147483647) (hy : -2147483648 ≤ y ∧ y ≤ 2147483647) (hzz : -2147483648 ≤ z ∧ z ≤ 2147483647) : jq sc 12 jm_X11_lays [.ref 0, .int (jI x), .int (jI y), .int (jI z)] (jh m r T) (cQ (aLays A x y z) m T) := by
  have c6 := I.c6
  have fs := I.fs
  obtain ⟨t, u, f, W⟩ := I.ls
  have W : lW A r T t u f := W
  have lb := I.lb (l := x.toNat) (by omega)
  obtain ⟨w1, gT, w3, w4⟩ := W.at (l := x.toNat) (by omega) hz
  have gn := fS_n fs
  have gk : 2 ≤ aK A ∧ aK A ≤ 5 := fs.2
  have en : m 2 1 = aN A := I.2.1.1.2.1
  refine je_in jb_X11_lays rfl (ls := [_, _, _, _, _, _, _, _]) rfl ?_
  refine je_ps jb_X11_lays 1 (pc' := 1) (ls' := [_, _, _, _, _, _, _, _]) (st' := [_]) rfl ?_
  refine je_get jb_X11_lays rfl (pc' := 4) rfl (jh_at (a := 0) rfl) (by rfl) (by rfl) ?_
  refine je_ps jb_X11_lays 1 (pc' := 5) (ls' := [_, _, _, _, _, _, _, _]) (st' := [_, _]) rfl ?_
  refine je_cvP' jb_X11_lays rfl (pc' := 8) rfl (jh_at (a := 1) rfl) (by rfl) (by first | decide | exact Nat.ble_eq_true_of_le (by omega)) (k_walkAt I.c I.c6 hzz) (st' := [_]) rfl ?_
  refine je_mv (fun c5 => ?_) (fun c5 => ?_)
  · skip
    refine je_ps jb_X11_lays 3 (pc' := 12) (ls' := [_, _, _, _, _, _, _, _]) (st' := [_, _]) rfl ?_
    refine je_cvP' jb_X11_lays rfl (pc' := 15) rfl (jh_at (a := 0) rfl) (by rfl) (by first | decide | exact Nat.ble_eq_true_of_le (by omega)) (c_X11_isList (by omega)) (st' := [_]) rfl ?_
    rw [decide_eq_true hl]
    refine je_ifeqb jb_X11_lays rfl (t := 23) rfl (pc' := 18) rfl (fun c15 => ?_) (fun c15 => ?_)
    · first | (exfalso; omega) | (cases c15; done) | (exfalso; simp_all; done)
    · refine je_ps jb_X11_lays 1 (pc' := 20) (ls' := [_, _, _, _, _, _, _, _]) (st' := [_]) rfl ?_
      refine je_ifnonnullN jb_X11_lays rfl (t := 29) rfl (pc' := 23) rfl ?_
      refine je_ps jb_X11_lays 2 (pc' := 25) (ls' := [_, _, _, _, _, _, _, _]) (st' := [_, _]) rfl ?_
      refine je_cvP' jb_X11_lays rfl (pc' := 28) rfl (jh_at (a := 0) rfl) (by rfl) (by first | decide | exact Nat.ble_eq_true_of_le (by omega)) (c_X11_refuse (by omega)) (st' := [_]) rfl ?_
      rw [show aLays A x y z = aRef A (-1) from by unfold aLays; rw [if_neg (fun h => c5 h.2)]]
      exact je_ret jb_X11_lays rfl (by rfl) ⟨_, _, _, rfl, rfl, I.ref (by omega), kG.ref m _, tG.rfl' T⟩
  · skip
    have hv : z.toNat < 13 := by omega
    have hvn : z.toNat < aC A := by omega
    have gv := I.wk hvn
    have ov := I.wo hvn
    refine je_ps jb_X11_lays 3 (pc' := 12) (ls' := [_, _, _, _, _, _, _, _]) (st' := [_, _]) rfl ?_
    refine je_cvP' jb_X11_lays rfl (pc' := 15) rfl (jh_at (a := 0) rfl) (by rfl) (by first | decide | exact Nat.ble_eq_true_of_le (by omega)) (c_X11_isList (by omega)) (st' := [_]) rfl ?_
    rw [decide_eq_true hl]
    refine je_ifeqb jb_X11_lays rfl (t := 23) rfl (pc' := 18) rfl (fun c15 => ?_) (fun c15 => ?_)
    · first | (exfalso; omega) | (cases c15; done) | (exfalso; simp_all; done)
    · refine je_ps jb_X11_lays 1 (pc' := 20) (ls' := [_, _, _, _, _, _, _, _]) (st' := [_]) rfl ?_
      refine je_ifnonnullR jb_X11_lays rfl (t := 29) rfl (pc' := 23) rfl ?_
      refine je_ps jb_X11_lays 2 (pc' := 31) (ls' := [_, _, _, _, _, _, _, _]) (st' := [_, _]) rfl ?_
      refine je_cvP' jb_X11_lays rfl (pc' := 34) rfl (jh_at (a := 0) rfl) (by rfl) (by first | decide | exact Nat.ble_eq_true_of_le (by omega)) (lAt_t W hl hz) (st' := [_]) rfl ?_
      refine je_ps jb_X11_lays 2 (pc' := 38) (ls' := [_, _, _, _, _, _, _, _]) (st' := [_]) rfl ?_
      refine je_ifnonnullR jb_X11_lays rfl (t := 44) rfl (pc' := 41) rfl ?_
      refine je_ps jb_X11_lays 1 (pc' := 45) (ls' := [_, _, _, _, _, _, _, _]) (st' := [_]) rfl ?_
      refine je_get jb_X11_lays rfl (pc' := 48) rfl (jh_at (a := 0) rfl) (by rfl) (by rfl) ?_
      refine je_get jb_X11_lays rfl (pc' := 51) rfl (jh_at (a := 1) rfl) (by rfl) (by rfl) ?_
      refine je_get jb_X11_lays rfl (pc' := 54) rfl (jh_at (a := 2) rfl) (by rfl) (by rfl) ?_
      rw [en]
      refine je_ps jb_X11_lays 2 (pc' := 57) (ls' := [_, _, _, _, _, _, _, _]) (st' := [_]) rfl ?_
      refine je_iflt jb_X11_lays rfl (t := 72) rfl (pc' := 60) rfl (by first | omega | exact (hM _ _).1 | exact (hM _ _).2) (by first | omega | exact (hM _ _).1 | exact (hM _ _).2) (fun c57 => ?_) (fun c57 => ?_)
      · refine je_ps jb_X11_lays 1 (pc' := 74) (ls' := [_, _, _, _, _, _, _, _]) (st' := [_]) rfl ?_
        rw [show aLays A x y z = (-13, A) from by unfold aLays; rw [if_pos ⟨hl, c5⟩, if_neg (by omega), if_neg (by omega)]]
        exact je_ret jb_X11_lays rfl (by rfl) ⟨_, _, _, rfl, rfl, I, kG.rfl' m, tG.rfl' T⟩
      · refine je_ps jb_X11_lays 2 (pc' := 63) (ls' := [_, _, _, _, _, _, _, _]) (st' := [_, _]) rfl ?_
        refine je_get jb_X11_lays rfl (pc' := 66) rfl ((jTr.rw gT).1) (by rfl) (by rfl) ?_
        refine je_ps jb_X11_lays 1 (pc' := 68) (ls' := [_, _, _, _, _, _, _, _]) (st' := [_, _, _]) rfl ?_
        refine je_isub jb_X11_lays rfl (pc' := 69) rfl ?_
        refine je_icmple jb_X11_lays rfl (t := 75) rfl (pc' := 72) rfl (by first | omega | exact (hM _ _).1 | exact (hM _ _).2) (by first | omega | exact (hM _ _).1 | exact (hM _ _).2) (by first | omega | exact (hM _ _).1 | exact (hM _ _).2) (by first | omega | exact (hM _ _).1 | exact (hM _ _).2) (fun c69 => ?_) (fun c69 => ?_)
        · refine je_ps jb_X11_lays 2 (pc' := 78) (ls' := [_, _, _, _, _, _, _, _]) (st' := []) rfl ?_
          refine je_loop (fun (p : Nat) ls σ' => ls = [.ref 0, .int (jI x), .int (jI y), .int (jI z), .ref (jwa z.toNat), .ref (62 + t x.toNat), .int (jI (aN A)), .int (jI p)] ∧ σ' = jh m r (jTs T (t x.toNat) (u x.toNat) (fLay (f x.toNat) (aW A z.toNat).1 y (p : Int)) (aL A x.toNat).2)) ((aN A).toNat) ⟨rfl, by rw [show ((0 : Nat) : Int) = 0 from rfl, fLay_0]; exact (congrArg (jh m r) (jTs_self gT)).symm⟩ (fun p hp ls σ' gp kp => ?_) (fun ls σ' gp => ?_)
          · obtain ⟨rfl, rfl⟩ := gp
            have gT := gT.s (fLay (f x.toNat) (aW A z.toNat).1 y (p : Int)) hz (by omega)
            refine je_ps jb_X11_lays 2 (pc' := 82) (ls' := [_, _, _, _, _, _, _, _]) (st' := [_, _]) rfl ?_
            refine je_icmpge jb_X11_lays rfl (t := 107) rfl (pc' := 85) rfl (by first | omega | exact (hM _ _).1 | exact (hM _ _).2) (by first | omega | exact (hM _ _).1 | exact (hM _ _).2) (by first | omega | exact (hM _ _).1 | exact (hM _ _).2) (by first | omega | exact (hM _ _).1 | exact (hM _ _).2) (fun c82 => ?_) (fun c82 => ?_)
            · first | (exfalso; omega) | (cases c82; done) | (exfalso; simp_all; done)
            · refine je_ps jb_X11_lays 3 (pc' := 90) (ls' := [_, _, _, _, _, _, _, _]) (st' := [_, _, _]) rfl ?_
              refine je_iadd jb_X11_lays rfl (pc' := 91) rfl ?_
              refine je_ps jb_X11_lays 2 (pc' := 95) (ls' := [_, _, _, _, _, _, _, _]) (st' := [_, _, _, _]) rfl ?_
              refine je_cvP' jb_X11_lays rfl (pc' := 98) rfl (by first | exact jh_V hv gv | exact jh_V hv (g0.R37 hv _) | exact jh_walk hv) (by rfl) (by first | decide | exact Nat.ble_eq_true_of_le (by omega)) (k_at hv gv (by omega)) (st' := [_, _, _]) rfl ?_
              refine je_cvP' jb_X11_lays rfl (pc' := 101) rfl ((jTr.rw gT).1) (by rfl) (by first | decide | exact Nat.ble_eq_true_of_le (by omega)) (kT_set gT (by omega)) (st' := []) rfl ?_
              refine je_iinc jb_X11_lays rfl (pc' := 104) rfl rfl (ls' := [_, _, _, _, _, _, _, _]) rfl ?_
              refine je_ps jb_X11_lays 1 (pc' := 78) (ls' := [_, _, _, _, _, _, _, _]) (st' := []) rfl ?_
              refine kp _ _ ⟨rfl, ?_⟩
              rw [jTs_jTs gT.2.2.1, fAt_in (by omega), fLay_s]
          · obtain ⟨rfl, rfl⟩ := gp
            refine je_ps jb_X11_lays 2 (pc' := 82) (ls' := [_, _, _, _, _, _, _, _]) (st' := [_, _]) rfl ?_
            refine je_icmpge jb_X11_lays rfl (t := 107) rfl (pc' := 85) rfl (by first | omega | exact (hM _ _).1 | exact (hM _ _).2) (by first | omega | exact (hM _ _).1 | exact (hM _ _).2) (by first | omega | exact (hM _ _).1 | exact (hM _ _).2) (by first | omega | exact (hM _ _).1 | exact (hM _ _).2) (fun c82 => ?_) (fun c82 => ?_)
            · refine je_ps jb_X11_lays 1 (pc' := 109) (ls' := [_, _, _, _, _, _, _, _]) (st' := [_]) rfl ?_
              rw [show aLays A x y z = (aN A, sL A x.toNat (fLay (aL A x.toNat).1 (aW A z.toNat).1 y (aN A), (aL A x.toNat).2)) from by unfold aLays; rw [if_pos ⟨hl, c5⟩, if_neg (by omega), if_pos (by omega)]]
              rw [show (((aN A).toNat : Nat) : Int) = aN A by omega]
              exact je_ret jb_X11_lays rfl (by rfl) ⟨_, _, _, rfl, rfl, I.lset W (by omega) hz hz (by omega) (fLay_b w3 (fun p => by have := ov.1.1 p; omega)) (fLay_b lb.2 (fun p => by have := ov.1.1 p; omega)) (fLay_e w4), kG.rfl' m, tG.ts gT _ _⟩
            · first | (exfalso; omega) | (cases c82; done) | (exfalso; simp_all; done)
        · refine je_ps jb_X11_lays 1 (pc' := 74) (ls' := [_, _, _, _, _, _, _, _]) (st' := [_]) rfl ?_
          rw [show aLays A x y z = (-13, A) from by unfold aLays; rw [if_pos ⟨hl, c5⟩, if_neg (by omega), if_neg (by omega)]]
          exact je_ret jb_X11_lays rfl (by rfl) ⟨_, _, _, rfl, rfl, I, kG.rfl' m, tG.rfl' T⟩
theorem cl_lays {A : aT} (I : iC A m r T) {x y z : Int} (hx : -2147483648 ≤ x ∧ x ≤ 2147483647) (hy : -2147483648 ≤ y ∧ y ≤ 2147483647) (hzz : -2147483648 ≤ z ∧ z ≤ 2147483647) : jq sc 12 jm_X11_lays [.ref 0, .int (jI x), .int (jI y), .int (jI z)] (jh m r T) (cQ (aLays A x y z) m T) := by
  by_cases hl : 0 ≤ x ∧ x < 3
  · by_cases hz : 0 ≤ (aL A x.toNat).2
    · exact cl_lays_p I hl hz hx hy hzz
    · exact cl_lays_q I hl (by omega) hx hy hzz
  · exact cl_lays_n I hl hx hy hzz
theorem cl_from_n {A : aT} (I : iC A m r T) {x y : Int} (hl : ¬ (0 ≤ x ∧ x < 3)) (hx : -2147483648 ≤ x ∧ x ≤ 2147483647) (hy : -2147483648 ≤ y ∧ y ≤ 2147483647) : jq sc 12 jm_X11_from [.ref 0, .int (jI x), .int (jI y)] (jh m r T) (cQ (aFrom A x y) m T) := by
  have c6 := I.c6
  have fs := I.fs
  refine je_in jb_X11_from rfl (ls := [_, _, _, _, _]) rfl ?_
  refine je_ps jb_X11_from 2 (pc' := 2) (ls' := [_, _, _, _, _]) (st' := [_, _]) rfl ?_
  refine je_cvP' jb_X11_from rfl (pc' := 5) rfl (jh_at (a := 0) rfl) (by rfl) (by first | decide | exact Nat.ble_eq_true_of_le (by omega)) (c_X11_isList (by omega)) (st' := [_]) rfl ?_
  rw [decide_eq_false hl]
  refine je_ifeqb jb_X11_from rfl (t := 22) rfl (pc' := 8) rfl (fun c5 => ?_) (fun c5 => ?_)
  · refine je_ps jb_X11_from 2 (pc' := 24) (ls' := [_, _, _, _, _]) (st' := [_, _]) rfl ?_
    refine je_cvP' jb_X11_from rfl (pc' := 27) rfl (jh_at (a := 0) rfl) (by rfl) (by first | decide | exact Nat.ble_eq_true_of_le (by omega)) (c_X11_refuse (by omega)) (st' := [_]) rfl ?_
    rw [show aFrom A x y = aRef A (-1) from by unfold aFrom; rw [if_neg (fun h => hl h.1)]]
    exact je_ret jb_X11_from rfl (by rfl) ⟨_, _, _, rfl, rfl, I.ref (by omega), kG.ref m _, tG.rfl' T⟩
  · first | (exfalso; omega) | (cases c5; done) | (exfalso; simp_all; done)
theorem cl_from_q {A : aT} (I : iC A m r T) {x y : Int} (hl : 0 ≤ x ∧ x < 3) (hz : (aL A x.toNat).2 < 0) (hx : -2147483648 ≤ x ∧ x ≤ 2147483647) (hy : -2147483648 ≤ y ∧ y ≤ 2147483647) : jq sc 12 jm_X11_from [.ref 0, .int (jI x), .int (jI y)] (jh m r T) (cQ (aFrom A x y) m T) := by
  have c6 := I.c6
  have fs := I.fs
  obtain ⟨t, u, f, W⟩ := I.ls
  have W : lW A r T t u f := W
  have lb := I.lb (l := x.toNat) (by omega)
  refine je_in jb_X11_from rfl (ls := [_, _, _, _, _]) rfl ?_
  refine je_ps jb_X11_from 2 (pc' := 2) (ls' := [_, _, _, _, _]) (st' := [_, _]) rfl ?_
  refine je_cvP' jb_X11_from rfl (pc' := 5) rfl (jh_at (a := 0) rfl) (by rfl) (by first | decide | exact Nat.ble_eq_true_of_le (by omega)) (c_X11_isList (by omega)) (st' := [_]) rfl ?_
  rw [decide_eq_true hl]
  refine je_ifeqb jb_X11_from rfl (t := 22) rfl (pc' := 8) rfl (fun c5 => ?_) (fun c5 => ?_)
  · first | (exfalso; omega) | (cases c5; done) | (exfalso; simp_all; done)
  · refine je_ps jb_X11_from 1 (pc' := 9) (ls' := [_, _, _, _, _]) (st' := [_]) rfl ?_
    refine je_get jb_X11_from rfl (pc' := 12) rfl (jh_at (a := 0) rfl) (by rfl) (by rfl) ?_
    refine je_get jb_X11_from rfl (pc' := 15) rfl (jh_at (a := 1) rfl) (by rfl) (by rfl) ?_
    refine je_ps jb_X11_from 1 (pc' := 16) (ls' := [_, _, _, _, _]) (st' := [_, _]) rfl ?_
    refine je_cvP' jb_X11_from rfl (pc' := 19) rfl (jh_at (a := 2) rfl) (by rfl) (by first | decide | exact Nat.ble_eq_true_of_le (by omega)) (c_X5_has (i := 0) (by decide) (I.str (jws_6 (by decide))) hy) (st' := [_]) rfl ?_
    refine je_ifneb jb_X11_from rfl (t := 28) rfl (pc' := 22) rfl (fun c19 => ?_) (fun c19 => ?_)
    · refine je_ps jb_X11_from 1 (pc' := 29) (ls' := [_, _, _, _, _]) (st' := [_]) rfl ?_
      refine je_get jb_X11_from rfl (pc' := 32) rfl (jh_at (a := 0) rfl) (by rfl) (by rfl) ?_
      refine je_cvP' jb_X11_from rfl (pc' := 35) rfl (jh_at (a := 1) rfl) (by rfl) (by first | decide | exact Nat.ble_eq_true_of_le (by omega)) (k_freeWalk I.c I.c6) (st' := [_]) rfl ?_
      refine je_mv (fun c32 => ?_) (fun c32 => ?_)
      · skip
        refine je_ps jb_X11_from 2 (pc' := 37) (ls' := [_, _, _, _, _]) (st' := [_]) rfl ?_
        refine je_ifnonnullN jb_X11_from rfl (t := 47) rfl (pc' := 40) rfl ?_
        refine je_ps jb_X11_from 2 (pc' := 43) (ls' := [_, _, _, _, _]) (st' := [_, _]) rfl ?_
        refine je_cvP' jb_X11_from rfl (pc' := 46) rfl (jh_at (a := 0) rfl) (by rfl) (by first | decide | exact Nat.ble_eq_true_of_le (by omega)) (c_X11_refuse (by omega)) (st' := [_]) rfl ?_
        rw [show aFrom A x y = aRef A (-6) from by unfold aFrom; rw [if_pos ⟨hl, c19⟩, if_neg c32]]
        exact je_ret jb_X11_from rfl (by rfl) ⟨_, _, _, rfl, rfl, I.ref (by omega), kG.ref m _, tG.rfl' T⟩
      · skip
        have hc : aC A < 13 := by omega
        have gs := I.str (i := aC A) (jws_6 (by omega))
        refine je_ps jb_X11_from 2 (pc' := 37) (ls' := [_, _, _, _, _]) (st' := [_]) rfl ?_
        refine je_ifnonnullR jb_X11_from rfl (t := 47) rfl (pc' := 40) rfl ?_
        refine je_ps jb_X11_from 2 (pc' := 49) (ls' := [_, _, _, _, _]) (st' := [_, _]) rfl ?_
        refine je_cvP' jb_X11_from rfl (pc' := 52) rfl (jh_at (a := 0) rfl) (by rfl) (by first | decide | exact Nat.ble_eq_true_of_le (by omega)) (lAt_n W hl hz) (st' := [_]) rfl ?_
        refine je_ps jb_X11_from 2 (pc' := 56) (ls' := [_, _, _, _, _]) (st' := [_]) rfl ?_
        refine je_ifnonnullN jb_X11_from rfl (t := 62) rfl (pc' := 59) rfl ?_
        refine je_ps jb_X11_from 1 (pc' := 61) (ls' := [_, _, _, _, _]) (st' := [_]) rfl ?_
        rw [show aFrom A x y = (-11, A) from by unfold aFrom; rw [if_pos ⟨hl, c19⟩, if_pos c32, if_pos hz]]
        exact je_ret jb_X11_from rfl (by rfl) ⟨_, _, _, rfl, rfl, I, kG.rfl' m, tG.rfl' T⟩
    · refine je_ps jb_X11_from 2 (pc' := 24) (ls' := [_, _, _, _, _]) (st' := [_, _]) rfl ?_
      refine je_cvP' jb_X11_from rfl (pc' := 27) rfl (jh_at (a := 0) rfl) (by rfl) (by first | decide | exact Nat.ble_eq_true_of_le (by omega)) (c_X11_refuse (by omega)) (st' := [_]) rfl ?_
      rw [show aFrom A x y = aRef A (-1) from by unfold aFrom; rw [if_neg (fun h => by rw [h.2] at c19; cases c19)]]
      exact je_ret jb_X11_from rfl (by rfl) ⟨_, _, _, rfl, rfl, I.ref (by omega), kG.ref m _, tG.rfl' T⟩
theorem cl_from_p {A : aT} (I : iC A m r T) {x y : Int} (hl : 0 ≤ x ∧ x < 3) (hz : 0 ≤ (aL A x.toNat).2) (hx : -2147483648 ≤ x ∧ x ≤ 2147483647) (hy : -2147483648 ≤ y ∧ y ≤ 2147483647) : jq sc 12 jm_X11_from [.ref 0, .int (jI x), .int (jI y)] (jh m r T) (cQ (aFrom A x y) m T) := by
  have c6 := I.c6
  have fs := I.fs
  obtain ⟨t, u, f, W⟩ := I.ls
  have W : lW A r T t u f := W
  have lb := I.lb (l := x.toNat) (by omega)
  obtain ⟨w1, gT, w3, w4⟩ := W.at (l := x.toNat) (by omega) hz
  refine je_in jb_X11_from rfl (ls := [_, _, _, _, _]) rfl ?_
  refine je_ps jb_X11_from 2 (pc' := 2) (ls' := [_, _, _, _, _]) (st' := [_, _]) rfl ?_
  refine je_cvP' jb_X11_from rfl (pc' := 5) rfl (jh_at (a := 0) rfl) (by rfl) (by first | decide | exact Nat.ble_eq_true_of_le (by omega)) (c_X11_isList (by omega)) (st' := [_]) rfl ?_
  rw [decide_eq_true hl]
  refine je_ifeqb jb_X11_from rfl (t := 22) rfl (pc' := 8) rfl (fun c5 => ?_) (fun c5 => ?_)
  · first | (exfalso; omega) | (cases c5; done) | (exfalso; simp_all; done)
  · refine je_ps jb_X11_from 1 (pc' := 9) (ls' := [_, _, _, _, _]) (st' := [_]) rfl ?_
    refine je_get jb_X11_from rfl (pc' := 12) rfl (jh_at (a := 0) rfl) (by rfl) (by rfl) ?_
    refine je_get jb_X11_from rfl (pc' := 15) rfl (jh_at (a := 1) rfl) (by rfl) (by rfl) ?_
    refine je_ps jb_X11_from 1 (pc' := 16) (ls' := [_, _, _, _, _]) (st' := [_, _]) rfl ?_
    refine je_cvP' jb_X11_from rfl (pc' := 19) rfl (jh_at (a := 2) rfl) (by rfl) (by first | decide | exact Nat.ble_eq_true_of_le (by omega)) (c_X5_has (i := 0) (by decide) (I.str (jws_6 (by decide))) hy) (st' := [_]) rfl ?_
    refine je_ifneb jb_X11_from rfl (t := 28) rfl (pc' := 22) rfl (fun c19 => ?_) (fun c19 => ?_)
    · refine je_ps jb_X11_from 1 (pc' := 29) (ls' := [_, _, _, _, _]) (st' := [_]) rfl ?_
      refine je_get jb_X11_from rfl (pc' := 32) rfl (jh_at (a := 0) rfl) (by rfl) (by rfl) ?_
      refine je_cvP' jb_X11_from rfl (pc' := 35) rfl (jh_at (a := 1) rfl) (by rfl) (by first | decide | exact Nat.ble_eq_true_of_le (by omega)) (k_freeWalk I.c I.c6) (st' := [_]) rfl ?_
      refine je_mv (fun c32 => ?_) (fun c32 => ?_)
      · skip
        refine je_ps jb_X11_from 2 (pc' := 37) (ls' := [_, _, _, _, _]) (st' := [_]) rfl ?_
        refine je_ifnonnullN jb_X11_from rfl (t := 47) rfl (pc' := 40) rfl ?_
        refine je_ps jb_X11_from 2 (pc' := 43) (ls' := [_, _, _, _, _]) (st' := [_, _]) rfl ?_
        refine je_cvP' jb_X11_from rfl (pc' := 46) rfl (jh_at (a := 0) rfl) (by rfl) (by first | decide | exact Nat.ble_eq_true_of_le (by omega)) (c_X11_refuse (by omega)) (st' := [_]) rfl ?_
        rw [show aFrom A x y = aRef A (-6) from by unfold aFrom; rw [if_pos ⟨hl, c19⟩, if_neg c32]]
        exact je_ret jb_X11_from rfl (by rfl) ⟨_, _, _, rfl, rfl, I.ref (by omega), kG.ref m _, tG.rfl' T⟩
      · skip
        have hc : aC A < 13 := by omega
        have gs := I.str (i := aC A) (jws_6 (by omega))
        refine je_ps jb_X11_from 2 (pc' := 37) (ls' := [_, _, _, _, _]) (st' := [_]) rfl ?_
        refine je_ifnonnullR jb_X11_from rfl (t := 47) rfl (pc' := 40) rfl ?_
        refine je_ps jb_X11_from 2 (pc' := 49) (ls' := [_, _, _, _, _]) (st' := [_, _]) rfl ?_
        refine je_cvP' jb_X11_from rfl (pc' := 52) rfl (jh_at (a := 0) rfl) (by rfl) (by first | decide | exact Nat.ble_eq_true_of_le (by omega)) (lAt_t W hl hz) (st' := [_]) rfl ?_
        refine je_ps jb_X11_from 2 (pc' := 56) (ls' := [_, _, _, _, _]) (st' := [_]) rfl ?_
        refine je_ifnonnullR jb_X11_from rfl (t := 62) rfl (pc' := 59) rfl ?_
        refine je_ps jb_X11_from 3 (pc' := 66) (ls' := [_, _, _, _, _]) (st' := [_, _, _]) rfl ?_
        refine je_cvP' jb_X11_from rfl (pc' := 69) rfl (jh_walk hc) (by rfl) (by first | decide | exact Nat.ble_eq_true_of_le (by omega)) (k_becomeTold hc (I.z hc) gs gT w3 hy) (st' := [_]) rfl ?_
        refine je_ifeqb jb_X11_from rfl (t := 82) rfl (pc' := 72) rfl (fun c69 => ?_) (fun c69 => ?_)
        · rw [if_neg (by rw [c69]; decide)]
          refine je_ps jb_X11_from 2 (pc' := 85) (ls' := [_, _, _, _, _]) (st' := [_, _]) rfl ?_
          refine je_cvP' jb_X11_from rfl (pc' := 88) rfl (jh_at (a := 0) rfl) (by rfl) (by first | decide | exact Nat.ble_eq_true_of_le (by omega)) (c_X11_refuse (by omega)) (st' := [_]) rfl ?_
          first | (rw [fBT_c w4] at c69; rw [show aFrom A x y = aRef A (-3) from by unfold aFrom; rw [if_pos ⟨hl, c19⟩, if_pos c32, if_neg (by omega), if_neg (by rw [c69]; decide)]]; exact je_ret jb_X11_from rfl (by rfl) ⟨_, _, _, rfl, rfl, I.ref (by omega), kG.ref m _, tG.rfl' T⟩) | (rw [fBT_c w4] at c69; rw [fRAt_c w4]; have ow := fRAt_w fs c69 hz c19; rw [show aFrom A x y = ((aC A : Int), sAdd A (fRAt (aL A x.toNat).1 (aL A x.toNat).2, y)) from by unfold aFrom; rw [if_pos ⟨hl, c19⟩, if_pos c32, if_neg (by omega), if_pos c69]]; rw [jW_1 hc]; exact je_ret jb_X11_from rfl (by rfl) ⟨_, _, _, rfl, rfl, I.add c32 ow, ((kG.rfl' m).w hc _ _).u (by decide) _, tG.rfl' T⟩)
        · rw [if_pos c69]
          refine je_ps jb_X11_from 1 (pc' := 73) (ls' := [_, _, _, _, _]) (st' := [_]) rfl ?_
          refine je_get jb_X11_from rfl (pc' := 76) rfl (jh_at (a := 0) rfl) (by rfl) (by rfl) ?_
          refine je_cvP' jb_X11_from rfl (pc' := 79) rfl (jh_at (a := 1) rfl) (by rfl) (by first | decide | exact Nat.ble_eq_true_of_le (by omega)) (keepFreeWalk_n (c := (aC A : Int)) (by rw [jW_1 hc]; exact I.c)) (st' := [_]) rfl ?_
          refine je_ps jb_X11_from 1 (pc' := 88) (ls' := [_, _, _, _, _]) (st' := [_]) rfl ?_
          first | (rw [fBT_c w4] at c69; rw [show aFrom A x y = aRef A (-3) from by unfold aFrom; rw [if_pos ⟨hl, c19⟩, if_pos c32, if_neg (by omega), if_neg (by rw [c69]; decide)]]; exact je_ret jb_X11_from rfl (by rfl) ⟨_, _, _, rfl, rfl, I.ref (by omega), kG.ref m _, tG.rfl' T⟩) | (rw [fBT_c w4] at c69; rw [fRAt_c w4]; have ow := fRAt_w fs c69 hz c19; rw [show aFrom A x y = ((aC A : Int), sAdd A (fRAt (aL A x.toNat).1 (aL A x.toNat).2, y)) from by unfold aFrom; rw [if_pos ⟨hl, c19⟩, if_pos c32, if_neg (by omega), if_pos c69]]; rw [jW_1 hc]; exact je_ret jb_X11_from rfl (by rfl) ⟨_, _, _, rfl, rfl, I.add c32 ow, ((kG.rfl' m).w hc _ _).u (by decide) _, tG.rfl' T⟩)
    · refine je_ps jb_X11_from 2 (pc' := 24) (ls' := [_, _, _, _, _]) (st' := [_, _]) rfl ?_
      refine je_cvP' jb_X11_from rfl (pc' := 27) rfl (jh_at (a := 0) rfl) (by rfl) (by first | decide | exact Nat.ble_eq_true_of_le (by omega)) (c_X11_refuse (by omega)) (st' := [_]) rfl ?_
      rw [show aFrom A x y = aRef A (-1) from by unfold aFrom; rw [if_neg (fun h => by rw [h.2] at c19; cases c19)]]
      exact je_ret jb_X11_from rfl (by rfl) ⟨_, _, _, rfl, rfl, I.ref (by omega), kG.ref m _, tG.rfl' T⟩
theorem cl_from {A : aT} (I : iC A m r T) {x y : Int} (hx : -2147483648 ≤ x ∧ x ≤ 2147483647) (hy : -2147483648 ≤ y ∧ y ≤ 2147483647) : jq sc 12 jm_X11_from [.ref 0, .int (jI x), .int (jI y)] (jh m r T) (cQ (aFrom A x y) m T) := by
  by_cases hl : 0 ≤ x ∧ x < 3
  · by_cases hz : 0 ≤ (aL A x.toNat).2
    · exact cl_from_p I hl hz hx hy
    · exact cl_from_q I hl (by omega) hx hy
  · exact cl_from_n I hl hx hy
theorem cl_judge_n {A : aT} (I : iC A m r T) {x y : Int} (hl : ¬ (0 ≤ x ∧ x < 3)) (hx : -2147483648 ≤ x ∧ x ≤ 2147483647) (hy : -2147483648 ≤ y ∧ y ≤ 2147483647) : jq sc 12 jm_X11_judge [.ref 0, .int (jI x), .int (jI y)] (jh m r T) (cQ (aJudge A x y) m T) := by
  have c6 := I.c6
  have fs := I.fs
  refine je_in jb_X11_judge rfl (ls := [_, _, _, _, _, _]) rfl ?_
  refine je_ps jb_X11_judge 1 (pc' := 1) (ls' := [_, _, _, _, _, _]) (st' := [_]) rfl ?_
  refine je_get jb_X11_judge rfl (pc' := 4) rfl (jh_at (a := 0) rfl) (by rfl) (by rfl) ?_
  refine je_ps jb_X11_judge 1 (pc' := 5) (ls' := [_, _, _, _, _, _]) (st' := [_, _]) rfl ?_
  refine je_cvP' jb_X11_judge rfl (pc' := 8) rfl (jh_at (a := 1) rfl) (by rfl) (by first | decide | exact Nat.ble_eq_true_of_le (by omega)) (k_walkAt I.c I.c6 hy) (st' := [_]) rfl ?_
  refine je_mv (fun c5 => ?_) (fun c5 => ?_)
  · skip
    refine je_ps jb_X11_judge 3 (pc' := 11) (ls' := [_, _, _, _, _, _]) (st' := [_, _]) rfl ?_
    refine je_cvP' jb_X11_judge rfl (pc' := 14) rfl (jh_at (a := 0) rfl) (by rfl) (by first | decide | exact Nat.ble_eq_true_of_le (by omega)) (c_X11_isList (by omega)) (st' := [_]) rfl ?_
    rw [decide_eq_false hl]
    refine je_ifeqb jb_X11_judge rfl (t := 21) rfl (pc' := 17) rfl (fun c14 => ?_) (fun c14 => ?_)
    · refine je_ps jb_X11_judge 2 (pc' := 23) (ls' := [_, _, _, _, _, _]) (st' := [_, _]) rfl ?_
      refine je_cvP' jb_X11_judge rfl (pc' := 26) rfl (jh_at (a := 0) rfl) (by rfl) (by first | decide | exact Nat.ble_eq_true_of_le (by omega)) (c_X11_refuse (by omega)) (st' := [_]) rfl ?_
      rw [show aJudge A x y = aRef A (-1) from by unfold aJudge; rw [if_neg (fun h => hl h.1)]]
      exact je_ret jb_X11_judge rfl (by rfl) ⟨_, _, _, rfl, rfl, I.ref (by omega), kG.ref m _, tG.rfl' T⟩
    · first | (exfalso; omega) | (cases c14; done) | (exfalso; simp_all; done)
  · skip
    have hv : y.toNat < 13 := by omega
    have hvn : y.toNat < aC A := by omega
    have gv := I.wk hvn
    have ov := I.wo hvn
    refine je_ps jb_X11_judge 3 (pc' := 11) (ls' := [_, _, _, _, _, _]) (st' := [_, _]) rfl ?_
    refine je_cvP' jb_X11_judge rfl (pc' := 14) rfl (jh_at (a := 0) rfl) (by rfl) (by first | decide | exact Nat.ble_eq_true_of_le (by omega)) (c_X11_isList (by omega)) (st' := [_]) rfl ?_
    rw [decide_eq_false hl]
    refine je_ifeqb jb_X11_judge rfl (t := 21) rfl (pc' := 17) rfl (fun c14 => ?_) (fun c14 => ?_)
    · refine je_ps jb_X11_judge 2 (pc' := 23) (ls' := [_, _, _, _, _, _]) (st' := [_, _]) rfl ?_
      refine je_cvP' jb_X11_judge rfl (pc' := 26) rfl (jh_at (a := 0) rfl) (by rfl) (by first | decide | exact Nat.ble_eq_true_of_le (by omega)) (c_X11_refuse (by omega)) (st' := [_]) rfl ?_
      rw [show aJudge A x y = aRef A (-1) from by unfold aJudge; rw [if_neg (fun h => hl h.1)]]
      exact je_ret jb_X11_judge rfl (by rfl) ⟨_, _, _, rfl, rfl, I.ref (by omega), kG.ref m _, tG.rfl' T⟩
    · first | (exfalso; omega) | (cases c14; done) | (exfalso; simp_all; done)
theorem cl_judge_q {A : aT} (I : iC A m r T) {x y : Int} (hl : 0 ≤ x ∧ x < 3) (hz : (aL A x.toNat).2 < 0) (hx : -2147483648 ≤ x ∧ x ≤ 2147483647) (hy : -2147483648 ≤ y ∧ y ≤ 2147483647) : jq sc 12 jm_X11_judge [.ref 0, .int (jI x), .int (jI y)] (jh m r T) (cQ (aJudge A x y) m T) := by
  have c6 := I.c6
  have fs := I.fs
  obtain ⟨t, u, f, W⟩ := I.ls
  have W : lW A r T t u f := W
  have lb := I.lb (l := x.toNat) (by omega)
  refine je_in jb_X11_judge rfl (ls := [_, _, _, _, _, _]) rfl ?_
  refine je_ps jb_X11_judge 1 (pc' := 1) (ls' := [_, _, _, _, _, _]) (st' := [_]) rfl ?_
  refine je_get jb_X11_judge rfl (pc' := 4) rfl (jh_at (a := 0) rfl) (by rfl) (by rfl) ?_
  refine je_ps jb_X11_judge 1 (pc' := 5) (ls' := [_, _, _, _, _, _]) (st' := [_, _]) rfl ?_
  refine je_cvP' jb_X11_judge rfl (pc' := 8) rfl (jh_at (a := 1) rfl) (by rfl) (by first | decide | exact Nat.ble_eq_true_of_le (by omega)) (k_walkAt I.c I.c6 hy) (st' := [_]) rfl ?_
  refine je_mv (fun c5 => ?_) (fun c5 => ?_)
  · skip
    refine je_ps jb_X11_judge 3 (pc' := 11) (ls' := [_, _, _, _, _, _]) (st' := [_, _]) rfl ?_
    refine je_cvP' jb_X11_judge rfl (pc' := 14) rfl (jh_at (a := 0) rfl) (by rfl) (by first | decide | exact Nat.ble_eq_true_of_le (by omega)) (c_X11_isList (by omega)) (st' := [_]) rfl ?_
    rw [decide_eq_true hl]
    refine je_ifeqb jb_X11_judge rfl (t := 21) rfl (pc' := 17) rfl (fun c14 => ?_) (fun c14 => ?_)
    · first | (exfalso; omega) | (cases c14; done) | (exfalso; simp_all; done)
    · refine je_ps jb_X11_judge 1 (pc' := 18) (ls' := [_, _, _, _, _, _]) (st' := [_]) rfl ?_
      refine je_ifnonnullN jb_X11_judge rfl (t := 27) rfl (pc' := 21) rfl ?_
      refine je_ps jb_X11_judge 2 (pc' := 23) (ls' := [_, _, _, _, _, _]) (st' := [_, _]) rfl ?_
      refine je_cvP' jb_X11_judge rfl (pc' := 26) rfl (jh_at (a := 0) rfl) (by rfl) (by first | decide | exact Nat.ble_eq_true_of_le (by omega)) (c_X11_refuse (by omega)) (st' := [_]) rfl ?_
      rw [show aJudge A x y = aRef A (-1) from by unfold aJudge; rw [if_neg (fun h => c5 h.2)]]
      exact je_ret jb_X11_judge rfl (by rfl) ⟨_, _, _, rfl, rfl, I.ref (by omega), kG.ref m _, tG.rfl' T⟩
  · skip
    have hv : y.toNat < 13 := by omega
    have hvn : y.toNat < aC A := by omega
    have gv := I.wk hvn
    have ov := I.wo hvn
    refine je_ps jb_X11_judge 3 (pc' := 11) (ls' := [_, _, _, _, _, _]) (st' := [_, _]) rfl ?_
    refine je_cvP' jb_X11_judge rfl (pc' := 14) rfl (jh_at (a := 0) rfl) (by rfl) (by first | decide | exact Nat.ble_eq_true_of_le (by omega)) (c_X11_isList (by omega)) (st' := [_]) rfl ?_
    rw [decide_eq_true hl]
    refine je_ifeqb jb_X11_judge rfl (t := 21) rfl (pc' := 17) rfl (fun c14 => ?_) (fun c14 => ?_)
    · first | (exfalso; omega) | (cases c14; done) | (exfalso; simp_all; done)
    · refine je_ps jb_X11_judge 1 (pc' := 18) (ls' := [_, _, _, _, _, _]) (st' := [_]) rfl ?_
      refine je_ifnonnullR jb_X11_judge rfl (t := 27) rfl (pc' := 21) rfl ?_
      refine je_ps jb_X11_judge 2 (pc' := 29) (ls' := [_, _, _, _, _, _]) (st' := [_, _]) rfl ?_
      refine je_cvP' jb_X11_judge rfl (pc' := 32) rfl (jh_at (a := 0) rfl) (by rfl) (by first | decide | exact Nat.ble_eq_true_of_le (by omega)) (lAt_n W hl hz) (st' := [_]) rfl ?_
      refine je_ps jb_X11_judge 2 (pc' := 36) (ls' := [_, _, _, _, _, _]) (st' := [_]) rfl ?_
      refine je_ifnonnullN jb_X11_judge rfl (t := 42) rfl (pc' := 39) rfl ?_
      refine je_ps jb_X11_judge 1 (pc' := 41) (ls' := [_, _, _, _, _, _]) (st' := [_]) rfl ?_
      rw [show aJudge A x y = (-11, A) from by unfold aJudge; rw [if_pos ⟨hl, c5⟩, if_pos hz]]
      exact je_ret jb_X11_judge rfl (by rfl) ⟨_, _, _, rfl, rfl, I, kG.rfl' m, tG.rfl' T⟩
theorem cl_judge_p {A : aT} (I : iC A m r T) {x y : Int} (hl : 0 ≤ x ∧ x < 3) (hz : 0 ≤ (aL A x.toNat).2) (hx : -2147483648 ≤ x ∧ x ≤ 2147483647) (hy : -2147483648 ≤ y ∧ y ≤ 2147483647) : jq sc 12 jm_X11_judge [.ref 0, .int (jI x), .int (jI y)] (jh m r T) (cQ (aJudge A x y) m T) := by
  have c6 := I.c6
  have fs := I.fs
  obtain ⟨t, u, f, W⟩ := I.ls
  have W : lW A r T t u f := W
  have lb := I.lb (l := x.toNat) (by omega)
  obtain ⟨w1, gT, w3, w4⟩ := W.at (l := x.toNat) (by omega) hz
  have gn := fS_n fs
  have gk : 2 ≤ aK A ∧ aK A ≤ 5 := fs.2
  have en : m 2 1 = aN A := I.2.1.1.2.1
  refine je_in jb_X11_judge rfl (ls := [_, _, _, _, _, _]) rfl ?_
  refine je_ps jb_X11_judge 1 (pc' := 1) (ls' := [_, _, _, _, _, _]) (st' := [_]) rfl ?_
  refine je_get jb_X11_judge rfl (pc' := 4) rfl (jh_at (a := 0) rfl) (by rfl) (by rfl) ?_
  refine je_ps jb_X11_judge 1 (pc' := 5) (ls' := [_, _, _, _, _, _]) (st' := [_, _]) rfl ?_
  refine je_cvP' jb_X11_judge rfl (pc' := 8) rfl (jh_at (a := 1) rfl) (by rfl) (by first | decide | exact Nat.ble_eq_true_of_le (by omega)) (k_walkAt I.c I.c6 hy) (st' := [_]) rfl ?_
  refine je_mv (fun c5 => ?_) (fun c5 => ?_)
  · skip
    refine je_ps jb_X11_judge 3 (pc' := 11) (ls' := [_, _, _, _, _, _]) (st' := [_, _]) rfl ?_
    refine je_cvP' jb_X11_judge rfl (pc' := 14) rfl (jh_at (a := 0) rfl) (by rfl) (by first | decide | exact Nat.ble_eq_true_of_le (by omega)) (c_X11_isList (by omega)) (st' := [_]) rfl ?_
    rw [decide_eq_true hl]
    refine je_ifeqb jb_X11_judge rfl (t := 21) rfl (pc' := 17) rfl (fun c14 => ?_) (fun c14 => ?_)
    · first | (exfalso; omega) | (cases c14; done) | (exfalso; simp_all; done)
    · refine je_ps jb_X11_judge 1 (pc' := 18) (ls' := [_, _, _, _, _, _]) (st' := [_]) rfl ?_
      refine je_ifnonnullN jb_X11_judge rfl (t := 27) rfl (pc' := 21) rfl ?_
      refine je_ps jb_X11_judge 2 (pc' := 23) (ls' := [_, _, _, _, _, _]) (st' := [_, _]) rfl ?_
      refine je_cvP' jb_X11_judge rfl (pc' := 26) rfl (jh_at (a := 0) rfl) (by rfl) (by first | decide | exact Nat.ble_eq_true_of_le (by omega)) (c_X11_refuse (by omega)) (st' := [_]) rfl ?_
      rw [show aJudge A x y = aRef A (-1) from by unfold aJudge; rw [if_neg (fun h => c5 h.2)]]
      exact je_ret jb_X11_judge rfl (by rfl) ⟨_, _, _, rfl, rfl, I.ref (by omega), kG.ref m _, tG.rfl' T⟩
  · skip
    have hv : y.toNat < 13 := by omega
    have hvn : y.toNat < aC A := by omega
    have gv := I.wk hvn
    have ov := I.wo hvn
    refine je_ps jb_X11_judge 3 (pc' := 11) (ls' := [_, _, _, _, _, _]) (st' := [_, _]) rfl ?_
    refine je_cvP' jb_X11_judge rfl (pc' := 14) rfl (jh_at (a := 0) rfl) (by rfl) (by first | decide | exact Nat.ble_eq_true_of_le (by omega)) (c_X11_isList (by omega)) (st' := [_]) rfl ?_
    rw [decide_eq_true hl]
    refine je_ifeqb jb_X11_judge rfl (t := 21) rfl (pc' := 17) rfl (fun c14 => ?_) (fun c14 => ?_)
    · first | (exfalso; omega) | (cases c14; done) | (exfalso; simp_all; done)
    · refine je_ps jb_X11_judge 1 (pc' := 18) (ls' := [_, _, _, _, _, _]) (st' := [_]) rfl ?_
      refine je_ifnonnullR jb_X11_judge rfl (t := 27) rfl (pc' := 21) rfl ?_
      refine je_ps jb_X11_judge 2 (pc' := 29) (ls' := [_, _, _, _, _, _]) (st' := [_, _]) rfl ?_
      refine je_cvP' jb_X11_judge rfl (pc' := 32) rfl (jh_at (a := 0) rfl) (by rfl) (by first | decide | exact Nat.ble_eq_true_of_le (by omega)) (lAt_t W hl hz) (st' := [_]) rfl ?_
      refine je_ps jb_X11_judge 2 (pc' := 36) (ls' := [_, _, _, _, _, _]) (st' := [_]) rfl ?_
      refine je_ifnonnullR jb_X11_judge rfl (t := 42) rfl (pc' := 39) rfl ?_
      refine je_ps jb_X11_judge 2 (pc' := 45) (ls' := [_, _, _, _, _, _]) (st' := []) rfl ?_
      refine je_loop (fun (p : Nat) ls σ' => ls = [.ref 0, .int (jI x), .int (jI y), .ref (jwa y.toNat), .ref (62 + t x.toNat), .int (jI p)] ∧ σ' = jh m r T ∧ ∀ q, q < p → jP1 (aN A) (aL A x.toNat).1 (aW A y.toNat).1 q = false) ((aL A x.toNat).2.toNat) ⟨rfl, rfl, fun q hq => by omega⟩ (fun p hp ls σ' gp kp => ?_) (fun ls σ' gp => ?_)
      · obtain ⟨rfl, rfl, fp⟩ := gp
        have wb := w3 (p : Int)
        have wq := w4 (p : Int) (by omega) (by omega)
        have bW := ov.1.1 (p : Int)
        have aw : fRAt (f x.toNat) (aL A x.toNat).2 (p : Int) = f x.toNat (p : Int) := if_pos (by omega)
        refine je_ps jb_X11_judge 2 (pc' := 49) (ls' := [_, _, _, _, _, _]) (st' := [_, _]) rfl ?_
        refine je_get jb_X11_judge rfl (pc' := 52) rfl ((jTr.rw gT).1) (by rfl) (by rfl) ?_
        refine je_icmpge jb_X11_judge rfl (t := 95) rfl (pc' := 55) rfl (by first | omega | exact (hM _ _).1 | exact (hM _ _).2) (by first | omega | exact (hM _ _).1 | exact (hM _ _).2) (by first | omega | exact (hM _ _).1 | exact (hM _ _).2) (by first | omega | exact (hM _ _).1 | exact (hM _ _).2) (fun c52 => ?_) (fun c52 => ?_)
        · first | (exfalso; omega) | (cases c52; done) | (exfalso; simp_all; done)
        · refine je_ps jb_X11_judge 2 (pc' := 58) (ls' := [_, _, _, _, _, _]) (st' := [_, _]) rfl ?_
          refine je_get jb_X11_judge rfl (pc' := 61) rfl (jh_at (a := 0) rfl) (by rfl) (by rfl) ?_
          refine je_get jb_X11_judge rfl (pc' := 64) rfl (jh_at (a := 1) rfl) (by rfl) (by rfl) ?_
          refine je_get jb_X11_judge rfl (pc' := 67) rfl (jh_at (a := 2) rfl) (by rfl) (by rfl) ?_
          rw [en]
          refine je_icmpge jb_X11_judge rfl (t := 86) rfl (pc' := 70) rfl (by first | omega | exact (hM _ _).1 | exact (hM _ _).2) (by first | omega | exact (hM _ _).1 | exact (hM _ _).2) (by first | omega | exact (hM _ _).1 | exact (hM _ _).2) (by first | omega | exact (hM _ _).1 | exact (hM _ _).2) (fun c67 => ?_) (fun c67 => ?_)
          · refine je_ps jb_X11_judge 1 (pc' := 88) (ls' := [_, _, _, _, _, _]) (st' := [_]) rfl ?_
            have ev : jP1 (aN A) (aL A x.toNat).1 (aW A y.toNat).1 p = true := by unfold jP1; first | (rw [decide_eq_true (by omega)]; rfl) | (rw [decide_eq_false (by omega), decide_eq_true (by omega)]; rfl)
            have ef : fFst (jP1 (aN A) (aL A x.toNat).1 (aW A y.toNat).1) 0 (aL A x.toNat).2.toNat = p := fFst_hit (P := jP1 (aN A) (aL A x.toNat).1 (aW A y.toNat).1) ev _ 0 (by omega) (by omega) (fun q _ hq => fp q hq)
            rw [show aJudge A x y = ((p : Int), A) from by unfold aJudge jJ; rw [if_pos ⟨hl, c5⟩, if_neg (by omega), ef, if_pos hp]]
            exact je_ret jb_X11_judge rfl (by rfl) ⟨_, _, _, rfl, rfl, I, kG.rfl' m, tG.rfl' T⟩
          · refine je_ps jb_X11_judge 2 (pc' := 74) (ls' := [_, _, _, _, _, _]) (st' := [_, _]) rfl ?_
            refine je_cvP' jb_X11_judge rfl (pc' := 77) rfl ((jTr.rw gT).1) (by rfl) (by first | decide | exact Nat.ble_eq_true_of_le (by omega)) (k_rat (jTr.rw gT) (by omega)) (st' := [_]) rfl ?_
            rw [aw]
            refine je_ps jb_X11_judge 2 (pc' := 80) (ls' := [_, _, _, _, _, _]) (st' := [_, _, _]) rfl ?_
            refine je_cvP' jb_X11_judge rfl (pc' := 83) rfl (by first | exact jh_V hv gv | exact jh_V hv (g0.R37 hv _) | exact jh_walk hv) (by rfl) (by first | decide | exact Nat.ble_eq_true_of_le (by omega)) (k_at hv gv (by omega)) (st' := [_, _]) rfl ?_
            rw [fAt_in (by omega)]
            refine je_icmpeq jb_X11_judge rfl (t := 89) rfl (pc' := 86) rfl (by first | omega | exact (hM _ _).1 | exact (hM _ _).2) (by first | omega | exact (hM _ _).1 | exact (hM _ _).2) (by first | omega | exact (hM _ _).1 | exact (hM _ _).2) (by first | omega | exact (hM _ _).1 | exact (hM _ _).2) (fun c83 => ?_) (fun c83 => ?_)
            · refine je_iinc jb_X11_judge rfl (pc' := 92) rfl rfl (ls' := [_, _, _, _, _, _]) rfl ?_
              refine je_ps jb_X11_judge 1 (pc' := 45) (ls' := [_, _, _, _, _, _]) (st' := []) rfl ?_
              refine kp _ _ ⟨rfl, rfl, fun q hq => ?_⟩
              by_cases h : q = p
              · subst h; unfold jP1; rw [decide_eq_false (by omega), decide_eq_false (by omega)]; rfl
              · exact fp q (by omega)
            · refine je_ps jb_X11_judge 1 (pc' := 88) (ls' := [_, _, _, _, _, _]) (st' := [_]) rfl ?_
              have ev : jP1 (aN A) (aL A x.toNat).1 (aW A y.toNat).1 p = true := by unfold jP1; first | (rw [decide_eq_true (by omega)]; rfl) | (rw [decide_eq_false (by omega), decide_eq_true (by omega)]; rfl)
              have ef : fFst (jP1 (aN A) (aL A x.toNat).1 (aW A y.toNat).1) 0 (aL A x.toNat).2.toNat = p := fFst_hit (P := jP1 (aN A) (aL A x.toNat).1 (aW A y.toNat).1) ev _ 0 (by omega) (by omega) (fun q _ hq => fp q hq)
              rw [show aJudge A x y = ((p : Int), A) from by unfold aJudge jJ; rw [if_pos ⟨hl, c5⟩, if_neg (by omega), ef, if_pos hp]]
              exact je_ret jb_X11_judge rfl (by rfl) ⟨_, _, _, rfl, rfl, I, kG.rfl' m, tG.rfl' T⟩
      · obtain ⟨rfl, rfl, fp⟩ := gp
        refine je_ps jb_X11_judge 2 (pc' := 49) (ls' := [_, _, _, _, _, _]) (st' := [_, _]) rfl ?_
        refine je_get jb_X11_judge rfl (pc' := 52) rfl ((jTr.rw gT).1) (by rfl) (by rfl) ?_
        refine je_icmpge jb_X11_judge rfl (t := 95) rfl (pc' := 55) rfl (by first | omega | exact (hM _ _).1 | exact (hM _ _).2) (by first | omega | exact (hM _ _).1 | exact (hM _ _).2) (by first | omega | exact (hM _ _).1 | exact (hM _ _).2) (by first | omega | exact (hM _ _).1 | exact (hM _ _).2) (fun c52 => ?_) (fun c52 => ?_)
        · refine je_ps jb_X11_judge 1 (pc' := 97) (ls' := [_, _, _, _, _, _]) (st' := [_]) rfl ?_
          have ef : fFst (jP1 (aN A) (aL A x.toNat).1 (aW A y.toNat).1) 0 (aL A x.toNat).2.toNat = 0 + (aL A x.toNat).2.toNat := fFst_none (P := jP1 (aN A) (aL A x.toNat).1 (aW A y.toNat).1) _ 0 (fun q _ hq => fp q (by omega))
          rw [show aJudge A x y = (-9, A) from by unfold aJudge jJ; rw [if_pos ⟨hl, c5⟩, if_neg (by omega), ef, if_neg (by omega)]]
          exact je_ret jb_X11_judge rfl (by rfl) ⟨_, _, _, rfl, rfl, I, kG.rfl' m, tG.rfl' T⟩
        · first | (exfalso; omega) | (cases c52; done) | (exfalso; simp_all; done)
theorem cl_judge {A : aT} (I : iC A m r T) {x y : Int} (hx : -2147483648 ≤ x ∧ x ≤ 2147483647) (hy : -2147483648 ≤ y ∧ y ≤ 2147483647) : jq sc 12 jm_X11_judge [.ref 0, .int (jI x), .int (jI y)] (jh m r T) (cQ (aJudge A x y) m T) := by
  by_cases hl : 0 ≤ x ∧ x < 3
  · by_cases hz : 0 ≤ (aL A x.toNat).2
    · exact cl_judge_p I hl hz hx hy
    · exact cl_judge_q I hl (by omega) hx hy
  · exact cl_judge_n I hl hx hy
end C62
