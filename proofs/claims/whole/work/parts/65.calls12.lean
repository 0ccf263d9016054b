/-! CALLS of the class: written -/
section C65
variable {sc : Nat × (Nat → Int32)} {m : Nat → Int → Int} {r : Nat → Nat → Value} {T : jx_H} {σ : jx_H}
theorem k_writerInit {σ : jx_H} {a w q : Nat} (ga : σ[a]? = some (10, [.null, .null, .int (jI 0), .int (jI 0), .int (jI 0)])) : jq sc 1 jm_X10_init [.ref a, .ref w, .ref q] σ (jP none (σ.set a (10, [.ref w, .ref q, .int (jI 0), .int (jI 0), .int (jI 0)]))) := by
  have g1 : (σ.set a (10, [.ref w, .null, .int (jI 0), .int (jI 0), .int (jI 0)]))[a]? = some (10, [.ref w, .null, .int (jI 0), .int (jI 0), .int (jI 0)]) := jset_same ga
  refine je_in jb_X10_init rfl (ls := [_, _, _]) rfl ?_
  refine je_ps jb_X10_init 1 (pc' := 1) (ls' := [_, _, _]) (st' := [_]) rfl ?_
  refine je_oi jb_X10_init rfl (pc' := 4) rfl rfl rfl ?_
  refine je_ps jb_X10_init 2 (pc' := 6) (ls' := [_, _, _]) (st' := [_, _]) rfl ?_
  refine je_put jb_X10_init rfl (pc' := 9) rfl (ga) (by rfl) (by rfl) (by rfl) (by rfl) ?_
  refine je_sig (jset_self ga) ?_
  refine je_ps jb_X10_init 2 (pc' := 11) (ls' := [_, _, _]) (st' := [_, _]) rfl ?_
  refine je_put jb_X10_init rfl (pc' := 14) rfl (ga) (by rfl) (by rfl) (by rfl) (by rfl) ?_
  refine je_sig (jset_self ga) ?_
  refine je_ps jb_X10_init 2 (pc' := 16) (ls' := [_, _, _]) (st' := [_, _]) rfl ?_
  refine je_put jb_X10_init rfl (pc' := 19) rfl (ga) (by rfl) (by rfl) (by rfl) (by rfl) ?_
  refine je_sig (jset_self ga) ?_
  refine je_ps jb_X10_init 2 (pc' := 21) (ls' := [_, _, _]) (st' := [_, _]) rfl ?_
  refine je_put jb_X10_init rfl (pc' := 24) rfl (ga) (by rfl) (by rfl) (by rfl) (by rfl) ?_
  have ga := g1
  refine je_ps jb_X10_init 2 (pc' := 26) (ls' := [_, _, _]) (st' := [_, _]) rfl ?_
  refine je_put jb_X10_init rfl (pc' := 29) rfl (ga) (by rfl) (by rfl) (by rfl) (by rfl) ?_
  refine je_sig (σ' := σ.set a (10, [.ref w, .ref q, .int (jI 0), .int (jI 0), .int (jI 0)])) (List.set_set ..) ?_
  exact je_ret jb_X10_init rfl (by rfl) ⟨by (first | rfl | (refine jv_t ?_; simp only [decide_eq_true_eq]; omega) | (refine jv_f ?_; simp only [decide_eq_false_iff_not]; omega) | (refine jv_I ?_; omega)), by (first | rfl | (refine jv_t ?_; simp only [decide_eq_true_eq]; omega) | (refine jv_f ?_; simp only [decide_eq_false_iff_not]; omega) | (refine jv_I ?_; omega))⟩
theorem iC.tail {A : aT} (I : iC A m r T) (x : jx_C) : iC A m r (T ++ [x]) := by
  have tk := tK.app T x
  obtain ⟨i1, i2', ⟨i3, i4⟩, i5, i6, i7, i8, i9, i10⟩ := I
  exact ⟨i1, i2'.now i1.1.2.1 (fun _ _ _ => rfl) rfl tk, ⟨i3, fun h => (i4 h).thn (i1.2.1 h).2.1 (fun _ _ _ => rfl) rfl tk⟩, i5, i6, i7, i8, i9.app rfl x, i10⟩
def aWrV (l : List Int) (y : Int) : Int := if y = -1 then (l.length : Int) else if 0 ≤ y ∧ y < (l.length : Int) then fSg (l.getD y.toNat 0) else -9
def aWritten (A : aT) (x y : Int) : Int × aT := if 0 ≤ x ∧ x < (aC A : Int) then (if y < -1 then aRef A (-4) else if aS A = 0 then (aWrV (xAll (aS A) (aN A) (aK A) (aW A x.toNat).1 (aW A x.toNat).2).1 y, A) else aRef A (-3)) else aRef A (-1)
theorem wr_at {q : wT} {l : List Int} {y : Int} (R : Rep q l) (h : 0 ≤ y ∧ y < (l.length : Int)) : fRAt q.1 q.2 y = l.getD y.toNat 0 := by
  have e := R.2 y.toNat (by omega)
  unfold fRAt
  rw [R.1, if_pos h, List.getD_eq_getElem?_getD, e, show ((y.toNat : Nat) : Int) = y by omega]
  rfl
theorem wr_mem {l : List Int} {y : Int} (h : 0 ≤ y ∧ y < (l.length : Int)) : l.getD y.toNat 0 ∈ l := by
  have hy : y.toNat < l.length := by omega
  rw [List.getD_eq_getElem?_getD, List.getElem?_eq_getElem hy]
  exact List.getElem_mem hy
theorem cl_written {A : aT} (I : iC A m r T) {x y : Int} (hx : -2147483648 ≤ x ∧ x ≤ 2147483647) (hy : -2147483648 ≤ y ∧ y ≤ 2147483647) : jq sc 14 jm_X11_written [.ref 0, .int (jI x), .int (jI y)] (jh m r T) (cQ (aWritten A x y) m T) := by
  have c6 := I.c6
  have fs := I.fs
  obtain ⟨q7, gq7, ok7⟩ := I.q7
  refine je_in jb_X11_written rfl (ls := [_, _, _, _]) rfl ?_
  refine je_ps jb_X11_written 1 (pc' := 1) (ls' := [_, _, _, _]) (st' := [_]) rfl ?_
  refine je_get jb_X11_written rfl (pc' := 4) rfl (jh_at (a := 0) rfl) (by rfl) (by rfl) ?_
  refine je_ps jb_X11_written 1 (pc' := 5) (ls' := [_, _, _, _]) (st' := [_, _]) rfl ?_
  refine je_cvP' jb_X11_written rfl (pc' := 8) rfl (jh_at (a := 1) rfl) (by rfl) (by first | decide | exact Nat.ble_eq_true_of_le (by omega)) (k_walkAt I.c I.c6 hx) (st' := [_]) rfl ?_
  refine je_mv (fun c5 => ?_) (fun c5 => ?_)
  · skip
    refine je_ps jb_X11_written 2 (pc' := 10) (ls' := [_, _, _, _]) (st' := [_]) rfl ?_
    refine je_ifnonnullN jb_X11_written rfl (t := 19) rfl (pc' := 13) rfl ?_
    refine je_ps jb_X11_written 2 (pc' := 15) (ls' := [_, _, _, _]) (st' := [_, _]) rfl ?_
    refine je_cvP' jb_X11_written rfl (pc' := 18) rfl (jh_at (a := 0) rfl) (by rfl) (by first | decide | exact Nat.ble_eq_true_of_le (by omega)) (c_X11_refuse (by omega)) (st' := [_]) rfl ?_
    rw [show aWritten A x y = aRef A (-1) from by unfold aWritten; rw [if_neg c5]]
    exact je_ret jb_X11_written rfl (by rfl) ⟨_, _, _, rfl, rfl, I.ref (by omega), kG.ref m _, tG.rfl' T⟩
  · skip
    have hu : x.toNat < 13 := by omega
    have hun : x.toNat < aC A := by omega
    have gu := I.wk hun
    have ou := I.wo hun
    refine je_ps jb_X11_written 2 (pc' := 10) (ls' := [_, _, _, _]) (st' := [_]) rfl ?_
    refine je_ifnonnullR jb_X11_written rfl (t := 19) rfl (pc' := 13) rfl ?_
    refine je_ps jb_X11_written 2 (pc' := 21) (ls' := [_, _, _, _]) (st' := [_, _]) rfl ?_
    refine je_icmpge jb_X11_written rfl (t := 31) rfl (pc' := 24) rfl (by first | omega | exact (hM _ _).1 | exact (hM _ _).2) (by first | omega | exact (hM _ _).1 | exact (hM _ _).2) (by first | omega | exact (hM _ _).1 | exact (hM _ _).2) (by first | omega | exact (hM _ _).1 | exact (hM _ _).2) (fun c21 => ?_) (fun c21 => ?_)
    · refine je_ps jb_X11_written 1 (pc' := 32) (ls' := [_, _, _, _]) (st' := [_]) rfl ?_
      refine je_get jb_X11_written rfl (pc' := 35) rfl (jh_at (a := 0) rfl) (by rfl) (by rfl) ?_
      refine je_get jb_X11_written rfl (pc' := 38) rfl (jh_at (a := 1) rfl) (by rfl) (by rfl) ?_
      refine je_cvP' jb_X11_written rfl (pc' := 41) rfl (jh_at (a := 2) rfl) (by rfl) (by first | decide | exact Nat.ble_eq_true_of_le (by omega)) (c_X5_isLine (i := 0) (by decide) (I.str (jws_6 (by decide)))) (st' := [_]) rfl ?_
      refine je_ifneb jb_X11_written rfl (t := 51) rfl (pc' := 44) rfl (fun c41 => ?_) (fun c41 => ?_)
      · refine je_new jb_X11_written rfl (pc' := 54) rfl rfl rfl rfl ?_
        have gC := jnew_at (jh m r T) (10, [Value.null, Value.null, Value.int (jI 0), Value.int (jI 0), Value.int (jI 0)])
        refine je_ps jb_X11_written 3 (pc' := 57) (ls' := [_, _, _, _]) (st' := [_, _, _, _]) rfl ?_
        refine je_get jb_X11_written rfl (pc' := 60) rfl (jh_at (a := 0) rfl) (by rfl) (by rfl) ?_
        refine je_cvP' jb_X11_written rfl (pc' := 63) rfl (gC) (by rfl) (by first | decide | exact Nat.ble_eq_true_of_le (by omega)) (k_writerInit gC) (st' := [_]) rfl ?_
        rw [jh_len]
        refine je_sig (σ' := jh m r (T ++ [wCell x.toNat 0 0 0])) (by rw [← jh_len m r T, jnew_set, jh_push]; rfl) ?_
        have gC := jT_get m r T (wCell x.toNat 0 0 0)
        have ec := fC_i fs ou.2.1
        have xr := xR_all (q := q7) fs (of_decide_eq_true c41) ou.1 ok7 ec
        have sz : (wAll (aS A) (aN A) (aK A) (aW A x.toNat).1 (aW A x.toNat).2 q7).1.2 = ((xAll (aS A) (aN A) (aK A) (aW A x.toNat).1 (aW A x.toNat).2).1.length : Int) := xr.1.1.1
        have g9 : jQ37 (jR37 m (wAll (aS A) (aN A) (aK A) (aW A x.toNat).1 (aW A x.toNat).2 q7).1) (wAll (aS A) (aN A) (aK A) (aW A x.toNat).1 (aW A x.toNat).2 q7).1 := jQ37_R m (by omega) (by have := xr.2.2.1; have := xr.2.2.2.2.1; have := xr.2.2.2.1; show (wAll (aS A) (aN A) (aK A) (aW A x.toNat).1 (aW A x.toNat).2 q7).1.2 ≤ ((110 : Nat) : Int); omega)
        refine je_cvP' jb_X11_written rfl (pc' := 66) rfl (gC) (by rfl) (by first | decide | exact Nat.ble_eq_true_of_le (by omega)) (k_writeWhole hu gu gq7) (st' := []) rfl ?_
        unfold wH
        refine je_ps jb_X11_written 2 (pc' := 68) (ls' := [_, _, _, _]) (st' := [_, _]) rfl ?_
        refine je_icmpne jb_X11_written rfl (t := 79) rfl (pc' := 71) rfl (by first | omega | exact (hM _ _).1 | exact (hM _ _).2) (by first | omega | exact (hM _ _).1 | exact (hM _ _).2) (by first | omega | exact (hM _ _).1 | exact (hM _ _).2) (by first | omega | exact (hM _ _).1 | exact (hM _ _).2) (fun c68 => ?_) (fun c68 => ?_)
        · refine je_ps jb_X11_written 1 (pc' := 80) (ls' := [_, _, _, _]) (st' := [_]) rfl ?_
          refine je_get jb_X11_written rfl (pc' := 83) rfl (jh_at (a := 0) rfl) (by rfl) (by rfl) ?_
          refine je_ps jb_X11_written 1 (pc' := 84) (ls' := [_, _, _, _]) (st' := [_, _]) rfl ?_
          refine je_cvP' jb_X11_written rfl (pc' := 87) rfl (jh_at (a := 39) rfl) (by rfl) (by first | decide | exact Nat.ble_eq_true_of_le (by omega)) (k37_has g9 hy) (st' := [_]) rfl ?_
          unfold fRH
          refine je_ifeqb jb_X11_written rfl (t := 104) rfl (pc' := 90) rfl (fun c87 => ?_) (fun c87 => ?_)
          · refine je_ps jb_X11_written 1 (pc' := 106) (ls' := [_, _, _, _]) (st' := [_]) rfl ?_
            first | (rw [show aWritten A x y = (aWrV (xAll (aS A) (aN A) (aK A) (aW A x.toNat).1 (aW A x.toNat).2).1 y, A) from by unfold aWritten; rw [if_pos c5, if_neg (by omega), if_pos (of_decide_eq_true c41)]]; exact je_ret jb_X11_written rfl (by rfl) ⟨_, _, _, by rw [if_pos (by omega)]; unfold aWrV; rw [if_neg (by omega), if_pos (by omega)], rfl, (I.r37 ⟨g9.2.2.1, g9.2.2.2⟩ xr.1.2).tail _, (kG.rfl' m).r37 _, ⟨by rw [List.length_append]; simp, by rw [wt_app]; show jx_wt T + 5 ≤ _; omega⟩⟩) | (rw [show aWritten A x y = (aWrV (xAll (aS A) (aN A) (aK A) (aW A x.toNat).1 (aW A x.toNat).2).1 y, A) from by unfold aWritten; rw [if_pos c5, if_neg (by omega), if_pos (of_decide_eq_true c41)]]; exact je_ret jb_X11_written rfl (by rfl) ⟨_, _, _, by have hb := of_decide_eq_false c87; unfold aWrV; rw [if_neg (by omega), if_neg (by omega)], rfl, (I.r37 ⟨g9.2.2.1, g9.2.2.2⟩ xr.1.2).tail _, (kG.rfl' m).r37 _, ⟨by rw [List.length_append]; simp, by rw [wt_app]; show jx_wt T + 5 ≤ _; omega⟩⟩)
          · refine je_ps jb_X11_written 1 (pc' := 91) (ls' := [_, _, _, _]) (st' := [_]) rfl ?_
            refine je_get jb_X11_written rfl (pc' := 94) rfl (jh_at (a := 0) rfl) (by rfl) (by rfl) ?_
            refine je_ps jb_X11_written 1 (pc' := 95) (ls' := [_, _, _, _]) (st' := [_, _]) rfl ?_
            refine je_cvP' jb_X11_written rfl (pc' := 98) rfl (jh_at (a := 39) rfl) (by rfl) (by first | decide | exact Nat.ble_eq_true_of_le (by omega)) (k37_at g9 hy) (st' := [_]) rfl ?_
            have hb := of_decide_eq_true c87
            have he : fRAt (wAll (aS A) (aN A) (aK A) (aW A x.toNat).1 (aW A x.toNat).2 q7).1.1 (wAll (aS A) (aN A) (aK A) (aW A x.toNat).1 (aW A x.toNat).2 q7).1.2 y = (xAll (aS A) (aN A) (aK A) (aW A x.toNat).1 (aW A x.toNat).2).1.getD y.toNat 0 := wr_at xr.1.1 (by omega)
            have hv := xr.2.2.2.2.2 _ (wr_mem (l := (xAll (aS A) (aN A) (aK A) (aW A x.toNat).1 (aW A x.toNat).2).1) (y := y) (by omega))
            rw [he]
            refine je_csP' jb_X11_written rfl (pc' := 101) rfl (by rfl) (by first | decide | exact Nat.ble_eq_true_of_le (by omega)) (c_X11_signOf (by omega)) (st' := [_]) rfl ?_
            refine je_ps jb_X11_written 1 (pc' := 106) (ls' := [_, _, _, _]) (st' := [_]) rfl ?_
            first | (rw [show aWritten A x y = (aWrV (xAll (aS A) (aN A) (aK A) (aW A x.toNat).1 (aW A x.toNat).2).1 y, A) from by unfold aWritten; rw [if_pos c5, if_neg (by omega), if_pos (of_decide_eq_true c41)]]; exact je_ret jb_X11_written rfl (by rfl) ⟨_, _, _, by rw [if_pos (by omega)]; unfold aWrV; rw [if_neg (by omega), if_pos (by omega)], rfl, (I.r37 ⟨g9.2.2.1, g9.2.2.2⟩ xr.1.2).tail _, (kG.rfl' m).r37 _, ⟨by rw [List.length_append]; simp, by rw [wt_app]; show jx_wt T + 5 ≤ _; omega⟩⟩) | (rw [show aWritten A x y = (aWrV (xAll (aS A) (aN A) (aK A) (aW A x.toNat).1 (aW A x.toNat).2).1 y, A) from by unfold aWritten; rw [if_pos c5, if_neg (by omega), if_pos (of_decide_eq_true c41)]]; exact je_ret jb_X11_written rfl (by rfl) ⟨_, _, _, by have hb := of_decide_eq_false c87; unfold aWrV; rw [if_neg (by omega), if_neg (by omega)], rfl, (I.r37 ⟨g9.2.2.1, g9.2.2.2⟩ xr.1.2).tail _, (kG.rfl' m).r37 _, ⟨by rw [List.length_append]; simp, by rw [wt_app]; show jx_wt T + 5 ≤ _; omega⟩⟩)
        · refine je_ps jb_X11_written 1 (pc' := 72) (ls' := [_, _, _, _]) (st' := [_]) rfl ?_
          refine je_get jb_X11_written rfl (pc' := 75) rfl (jh_at (a := 0) rfl) (by rfl) (by rfl) ?_
          refine je_get jb_X11_written rfl (pc' := 78) rfl (jh_at (a := 39) rfl) (by rfl) (by rfl) ?_
          rw [show aWritten A x y = (aWrV (xAll (aS A) (aN A) (aK A) (aW A x.toNat).1 (aW A x.toNat).2).1 y, A) from by unfold aWritten; rw [if_pos c5, if_neg (by omega), if_pos (of_decide_eq_true c41)]]
          exact je_ret jb_X11_written rfl (by rfl) ⟨_, _, _, by rw [g9.2.1, sz]; unfold aWrV; rw [if_pos (by omega)], rfl, (I.r37 ⟨g9.2.2.1, g9.2.2.2⟩ xr.1.2).tail _, (kG.rfl' m).r37 _, ⟨by rw [List.length_append]; simp, by rw [wt_app]; show jx_wt T + 5 ≤ _; omega⟩⟩
      · refine je_ps jb_X11_written 2 (pc' := 47) (ls' := [_, _, _, _]) (st' := [_, _]) rfl ?_
        refine je_cvP' jb_X11_written rfl (pc' := 50) rfl (jh_at (a := 0) rfl) (by rfl) (by first | decide | exact Nat.ble_eq_true_of_le (by omega)) (c_X11_refuse (by omega)) (st' := [_]) rfl ?_
        rw [show aWritten A x y = aRef A (-3) from by unfold aWritten; rw [if_pos c5, if_neg (by omega), if_neg (of_decide_eq_false c41)]]
        exact je_ret jb_X11_written rfl (by rfl) ⟨_, _, _, rfl, rfl, I.ref (by omega), kG.ref m _, tG.rfl' T⟩
    · refine je_ps jb_X11_written 2 (pc' := 27) (ls' := [_, _, _, _]) (st' := [_, _]) rfl ?_
      refine je_cvP' jb_X11_written rfl (pc' := 30) rfl (jh_at (a := 0) rfl) (by rfl) (by first | decide | exact Nat.ble_eq_true_of_le (by omega)) (c_X11_refuse (by omega)) (st' := [_]) rfl ?_
      rw [show aWritten A x y = aRef A (-4) from by unfold aWritten; rw [if_pos c5, if_pos (by omega)]]
      exact je_ret jb_X11_written rfl (by rfl) ⟨_, _, _, rfl, rfl, I.ref (by omega), kG.ref m _, tG.rfl' T⟩
end C65
