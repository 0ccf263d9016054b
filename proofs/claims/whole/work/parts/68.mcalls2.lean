/-! CALLS of the other side: what is asked of a walk -/
section C68
variable {sc : Nat × (Nat → Int32)} {m : Nat → Int → Int} {r : Nat → Nat → Value} {T : jx_H} {σ : jx_H}
theorem gl_of {A : aT} (O : aOk A) (J : iG A m) {x y : Int} (hx : -2147483648 ≤ x ∧ x ≤ 2147483647) (hy : -2147483648 ≤ y ∧ y ≤ 2147483647) : jq sc 14 jm_X12_of [.ref 45, .int (jI x), .int (jI y)] (jh m r T) (gQ (aOf A x y) m r T) := by
  have c6 := O.c6
  have fs := O.fs
  have jc := J.c
  refine je_in jb_X12_of rfl (ls := [_, _, _]) rfl ?_
  refine je_ps jb_X12_of 2 (pc' := 2) (ls' := [_, _, _]) (st' := [_, _]) rfl ?_
  refine je_cvP' jb_X12_of rfl (pc' := 5) rfl (jh_at (a := 45) rfl) (by rfl) (by first | decide | exact Nat.ble_eq_true_of_le (by omega)) (k_gisWalk J.c (by omega) hx) (st' := [_]) rfl ?_
  refine je_ifneb jb_X12_of rfl (t := 14) rfl (pc' := 8) rfl (fun c5 => ?_) (fun c5 => ?_)
  · have hu := of_decide_eq_true c5
    have gu := J.wk O hu
    have ou := O.wo (i := x.toNat) (by omega)
    have ge := gu.2.2.2.1
    refine je_ps jb_X12_of 1 (pc' := 15) (ls' := [_, _, _]) (st' := [_]) rfl ?_
    refine je_swc fun y15 ey15 => ?_
    rcases (by omega : y15 = 0 ∨ y15 = 1 ∨ y15 = 2 ∨ y15 = 3 ∨ y15 = 4 ∨ y15 = 5 ∨ y15 = 6 ∨ y15 = 7 ∨ (y15 < 0 ∨ 7 < y15)) with c15 | c15 | c15 | c15 | c15 | c15 | c15 | c15 | c15
    · rw [c15]
      refine je_sw jb_X12_of rfl (t := 60) (st' := []) rfl ?_
      refine je_ps jb_X12_of 1 (pc' := 61) (ls' := [_, _, _]) (st' := [_]) rfl ?_
      refine je_get jb_X12_of rfl (pc' := 64) rfl (jh_at (a := 45) rfl) (by rfl) (by rfl) ?_
      refine je_ps jb_X12_of 1 (pc' := 65) (ls' := [_, _, _]) (st' := [_, _]) rfl ?_
      refine je_iald jb_X12_of rfl (pc' := 66) rfl (n := 9) (f := _) (jh_at (a := 48) rfl) (by first | omega | exact (hM _ _).1 | exact (hM _ _).2) (by first | omega | exact (hM _ _).1 | exact (hM _ _).2) (by first | omega | exact (hM _ _).1 | exact (hM _ _).2) ?_
      rw [ge]
      rw [show aOf A x y = (aOfv A x.toNat y, A) from by unfold aOf; rw [if_pos hu, if_pos (by omega)]]
      exact je_ret jb_X12_of rfl (by rfl) ⟨_, by unfold aOfv; rw [if_pos (by omega)], rfl, J, (kC.rfl' m)⟩
    · rw [c15]
      refine je_sw jb_X12_of rfl (t := 67) (st' := []) rfl ?_
      refine je_ps jb_X12_of 2 (pc' := 69) (ls' := [_, _, _]) (st' := [_, _]) rfl ?_
      refine je_cvP' jb_X12_of rfl (pc' := 72) rfl (jh_at (a := 45) rfl) (by rfl) (by first | decide | exact Nat.ble_eq_true_of_le (by omega)) (k_glit gu) (st' := [_]) rfl ?_
      rw [show aOf A x y = (aOfv A x.toNat y, A) from by unfold aOf; rw [if_pos hu, if_pos (by omega)]]
      exact je_ret jb_X12_of rfl (by rfl) ⟨_, by unfold aOfv; rw [if_neg (by omega), if_pos (by omega)], rfl, J, (kC.rfl' m)⟩
    · rw [c15]
      refine je_sw jb_X12_of rfl (t := 73) (st' := []) rfl ?_
      refine je_ps jb_X12_of 2 (pc' := 75) (ls' := [_, _, _]) (st' := [_, _]) rfl ?_
      refine je_cv jb_X12_of rfl (pc' := 78) rfl (jh_at (a := 45) rfl) (by rfl) (by first | decide | exact Nat.ble_eq_true_of_le (by omega)) (k_glength gu) ?_
      rintro _ _ ⟨m1, rfl, rfl, h1⟩
      show je _ _ _ _ _ [_] _ _
      rw [show aOf A x y = (aOfv A x.toNat y, A) from by unfold aOf; rw [if_pos hu, if_pos (by omega)]]
      exact je_ret jb_X12_of rfl (by rfl) ⟨_, by unfold aOfv; rw [if_neg (by omega), if_neg (by omega), if_pos (by omega)], rfl, J.y c6 h1.y, (kC.rfl' m).y h1.y⟩
    · rw [c15]
      refine je_sw jb_X12_of rfl (t := 79) (st' := []) rfl ?_
      refine je_ps jb_X12_of 2 (pc' := 81) (ls' := [_, _, _]) (st' := [_, _]) rfl ?_
      refine je_cvP' jb_X12_of rfl (pc' := 84) rfl (jh_at (a := 45) rfl) (by rfl) (by first | decide | exact Nat.ble_eq_true_of_le (by omega)) (k_gdues gu) (st' := []) rfl ?_
      have d1 : gD m (jU m 51 (jF (m 51) (aW A x.toNat).1 (aN A))) := (gD.rfl' m).d _
      have du := gDu_is m (aN A) (aW A x.toNat).1
      refine je_ps jb_X12_of 1 (pc' := 85) (ls' := [_, _, _]) (st' := [_]) rfl ?_
      refine je_cvP' jb_X12_of rfl (pc' := 88) rfl (jh_at (a := 45) rfl) (by rfl) (by first | decide | exact Nat.ble_eq_true_of_le (by omega)) (k_gturns (d1.k gu).1 du ou.1) (st' := [_]) rfl ?_
      rw [show aOf A x y = (aOfv A x.toNat y, A) from by unfold aOf; rw [if_pos hu, if_pos (by omega)]]
      exact je_ret jb_X12_of rfl (by rfl) ⟨_, by unfold aOfv; rw [if_neg (by omega), if_neg (by omega), if_neg (by omega), if_pos (by omega)], rfl, J.y c6 d1.y, (kC.rfl' m).y d1.y⟩
    · rw [c15]
      refine je_sw jb_X12_of rfl (t := 89) (st' := []) rfl ?_
      refine je_ps jb_X12_of 2 (pc' := 91) (ls' := [_, _, _]) (st' := [_, _]) rfl ?_
      refine je_cvP' jb_X12_of rfl (pc' := 94) rfl (jh_at (a := 45) rfl) (by rfl) (by first | decide | exact Nat.ble_eq_true_of_le (by omega)) (k_gdues gu) (st' := []) rfl ?_
      have d1 : gD m (jU m 51 (jF (m 51) (aW A x.toNat).1 (aN A))) := (gD.rfl' m).d _
      have du := gDu_is m (aN A) (aW A x.toNat).1
      have ge1 := (d1.k gu).2.2.2.1
      refine je_ps jb_X12_of 3 (pc' := 97) (ls' := [_, _, _]) (st' := [_, _, _]) rfl ?_
      refine je_get jb_X12_of rfl (pc' := 100) rfl (jh_at (a := 45) rfl) (by rfl) (by rfl) ?_
      refine je_ps jb_X12_of 1 (pc' := 101) (ls' := [_, _, _]) (st' := [_, _, _, _]) rfl ?_
      refine je_iald jb_X12_of rfl (pc' := 102) rfl (n := 9) (f := _) (jh_at (a := 48) rfl) (by first | omega | exact (hM _ _).1 | exact (hM _ _).2) (by first | omega | exact (hM _ _).1 | exact (hM _ _).2) (by first | omega | exact (hM _ _).1 | exact (hM _ _).2) ?_
      rw [ge1]
      refine je_cv jb_X12_of rfl (pc' := 105) rfl (jh_at (a := 45) rfl) (by rfl) (by first | decide | exact Nat.ble_eq_true_of_le (by omega)) (k_gtour (d1.k gu).1 du ou.1 (fC_0 fs) ou.2.1) ?_
      rintro _ _ ⟨m1, rfl, rfl, h1⟩
      show je _ _ _ _ _ [_] _ _
      rw [show aOf A x y = (aOfv A x.toNat y, A) from by unfold aOf; rw [if_pos hu, if_pos (by omega)]]
      exact je_ret jb_X12_of rfl (by rfl) ⟨_, by unfold aOfv; rw [if_neg (by omega), if_neg (by omega), if_neg (by omega), if_neg (by omega), if_pos (by omega)], rfl, J.y c6 (d1.tr h1).y, (kC.rfl' m).y (d1.tr h1).y⟩
    · rw [c15]
      refine je_sw jb_X12_of rfl (t := 106) (st' := []) rfl ?_
      refine je_ps jb_X12_of 2 (pc' := 108) (ls' := [_, _, _]) (st' := [_, _]) rfl ?_
      refine je_cv jb_X12_of rfl (pc' := 111) rfl (jh_at (a := 45) rfl) (by rfl) (by first | decide | exact Nat.ble_eq_true_of_le (by omega)) (k_gisDead gu) ?_
      rintro _ _ ⟨m1, rfl, rfl, h1⟩
      show je _ _ _ _ _ [_] _ _
      refine je_ifeqb jb_X12_of rfl (t := 118) rfl (pc' := 114) rfl (fun c111 => ?_) (fun c111 => ?_)
      · refine je_ps jb_X12_of 1 (pc' := 119) (ls' := [_, _, _]) (st' := [_]) rfl ?_
        rw [show aOf A x y = (aOfv A x.toNat y, A) from by unfold aOf; rw [if_pos hu, if_pos (by omega)]]
        exact je_ret jb_X12_of rfl (by rfl) ⟨_, by unfold aOfv; rw [if_neg (by omega), if_neg (by omega), if_neg (by omega), if_neg (by omega), if_neg (by omega), if_pos (by omega), c111]; rfl, rfl, J.y c6 h1.y, (kC.rfl' m).y h1.y⟩
      · refine je_ps jb_X12_of 2 (pc' := 119) (ls' := [_, _, _]) (st' := [_]) rfl ?_
        rw [show aOf A x y = (aOfv A x.toNat y, A) from by unfold aOf; rw [if_pos hu, if_pos (by omega)]]
        exact je_ret jb_X12_of rfl (by rfl) ⟨_, by unfold aOfv; rw [if_neg (by omega), if_neg (by omega), if_neg (by omega), if_neg (by omega), if_neg (by omega), if_pos (by omega), c111]; rfl, rfl, J.y c6 h1.y, (kC.rfl' m).y h1.y⟩
    · rw [c15]
      refine je_sw jb_X12_of rfl (t := 120) (st' := []) rfl ?_
      refine je_ps jb_X12_of 2 (pc' := 122) (ls' := [_, _, _]) (st' := [_, _]) rfl ?_
      refine je_cv jb_X12_of rfl (pc' := 125) rfl (jh_at (a := 45) rfl) (by rfl) (by first | decide | exact Nat.ble_eq_true_of_le (by omega)) (k_gdepth gu) ?_
      rintro _ _ ⟨m1, rfl, rfl, h1⟩
      show je _ _ _ _ _ [_] _ _
      rw [show aOf A x y = (aOfv A x.toNat y, A) from by unfold aOf; rw [if_pos hu, if_pos (by omega)]]
      exact je_ret jb_X12_of rfl (by rfl) ⟨_, by unfold aOfv; rw [if_neg (by omega), if_neg (by omega), if_neg (by omega), if_neg (by omega), if_neg (by omega), if_neg (by omega), if_pos (by omega)], rfl, J.y c6 h1.y, (kC.rfl' m).y h1.y⟩
    · rw [c15]
      refine je_sw jb_X12_of rfl (t := 126) (st' := []) rfl ?_
      refine je_ps jb_X12_of 2 (pc' := 128) (ls' := [_, _, _]) (st' := [_, _]) rfl ?_
      refine je_cv jb_X12_of rfl (pc' := 131) rfl (jh_at (a := 45) rfl) (by rfl) (by first | decide | exact Nat.ble_eq_true_of_le (by omega)) (k_gorder gu (by omega)) ?_
      rintro _ _ ⟨m1, rfl, rfl, h1⟩
      show je _ _ _ _ _ [_] _ _
      rw [show aOf A x y = (aOfv A x.toNat y, A) from by unfold aOf; rw [if_pos hu, if_pos (by omega)]]
      exact je_ret jb_X12_of rfl (by rfl) ⟨_, by unfold aOfv; rw [if_neg (by omega), if_neg (by omega), if_neg (by omega), if_neg (by omega), if_neg (by omega), if_neg (by omega), if_neg (by omega)], rfl, J.y c6 h1.y, (kC.rfl' m).y h1.y⟩
    · refine je_swO jb_X12_of rfl (t := 132) rfl (by omega) (by omega) c15 ?_
      refine je_ps jb_X12_of 2 (pc' := 135) (ls' := [_, _, _]) (st' := [_, _]) rfl ?_
      refine je_cvP' jb_X12_of rfl (pc' := 138) rfl (jh_at (a := 45) rfl) (by rfl) (by first | decide | exact Nat.ble_eq_true_of_le (by omega)) (c_X12_refusedFar (by omega)) (st' := [_]) rfl ?_
      rw [show aOf A x y = aFar A (-2) from by unfold aOf; rw [if_pos hu, if_neg (by omega)]]
      exact je_ret jb_X12_of rfl (by rfl) ⟨_, rfl, rfl, J.ref (by omega), (kC.rfl' m).u (by decide) _⟩
  · refine je_ps jb_X12_of 2 (pc' := 10) (ls' := [_, _, _]) (st' := [_, _]) rfl ?_
    refine je_cvP' jb_X12_of rfl (pc' := 13) rfl (jh_at (a := 45) rfl) (by rfl) (by first | decide | exact Nat.ble_eq_true_of_le (by omega)) (c_X12_refusedFar (by omega)) (st' := [_]) rfl ?_
    rw [show aOf A x y = aFar A (-1) from by unfold aOf; rw [if_neg (of_decide_eq_false c5)]]
    exact je_ret jb_X12_of rfl (by rfl) ⟨_, rfl, rfl, J.ref (by omega), (kC.rfl' m).u (by decide) _⟩
theorem gl_lamp {A : aT} (O : aOk A) (J : iG A m) {x y : Int} (hx : -2147483648 ≤ x ∧ x ≤ 2147483647) (hy : -2147483648 ≤ y ∧ y ≤ 2147483647) : jq sc 6 jm_X12_lamp [.ref 45, .int (jI x), .int (jI y)] (jh m r T) (gQ (aLamp A x y) m r T) := by
  have c6 := O.c6
  have fs := O.fs
  have jc := J.c
  refine je_in jb_X12_lamp rfl (ls := [_, _, _]) rfl ?_
  refine je_ps jb_X12_lamp 2 (pc' := 2) (ls' := [_, _, _]) (st' := [_, _]) rfl ?_
  refine je_cvP' jb_X12_lamp rfl (pc' := 5) rfl (jh_at (a := 45) rfl) (by rfl) (by first | decide | exact Nat.ble_eq_true_of_le (by omega)) (k_gisWalk J.c (by omega) hx) (st' := [_]) rfl ?_
  refine je_ifeqb jb_X12_lamp rfl (t := 25) rfl (pc' := 8) rfl (fun c5 => ?_) (fun c5 => ?_)
  · refine je_ps jb_X12_lamp 2 (pc' := 27) (ls' := [_, _, _]) (st' := [_, _]) rfl ?_
    refine je_cvP' jb_X12_lamp rfl (pc' := 30) rfl (jh_at (a := 45) rfl) (by rfl) (by first | decide | exact Nat.ble_eq_true_of_le (by omega)) (c_X12_refused (by omega)) (st' := [_]) rfl ?_
    first | (rw [show aLamp A x y = aRef A (-1) from by unfold aLamp; rw [if_neg (fun h => of_decide_eq_false c5 h.1)]]; exact je_ret jb_X12_lamp rfl (by rfl) ⟨_, rfl, rfl, J.ref (by omega), (kC.rfl' m).u (by decide) _⟩) | (rw [show aLamp A x y = aRef A (-1) from by unfold aLamp; rw [if_neg (fun h => by rw [h.2] at c13; cases c13)]]; exact je_ret jb_X12_lamp rfl (by rfl) ⟨_, rfl, rfl, J.ref (by omega), (kC.rfl' m).u (by decide) _⟩) | (rw [show aLamp A x y = (fSh (aS A) (aN A) (aW A x.toNat).1 y, A) from by unfold aLamp; rw [if_pos ⟨hu, c13⟩]]; exact je_ret jb_X12_lamp rfl (by rfl) ⟨_, by rw [fSh_at (fHas_t c13) (by have := fS_n fs; omega)], rfl, J, (kC.rfl' m)⟩)
  · have hu := of_decide_eq_true c5
    have gu := J.wk O hu
    have ou := O.wo (i := x.toNat) (by omega)
    refine je_ps jb_X12_lamp 2 (pc' := 10) (ls' := [_, _, _]) (st' := [_, _]) rfl ?_
    refine je_cvP' jb_X12_lamp rfl (pc' := 13) rfl (jh_at (a := 45) rfl) (by rfl) (by first | decide | exact Nat.ble_eq_true_of_le (by omega)) (c_X12_isCorner J.st hy) (st' := [_]) rfl ?_
    refine je_ifeqb jb_X12_lamp rfl (t := 25) rfl (pc' := 16) rfl (fun c13 => ?_) (fun c13 => ?_)
    · refine je_ps jb_X12_lamp 2 (pc' := 27) (ls' := [_, _, _]) (st' := [_, _]) rfl ?_
      refine je_cvP' jb_X12_lamp rfl (pc' := 30) rfl (jh_at (a := 45) rfl) (by rfl) (by first | decide | exact Nat.ble_eq_true_of_le (by omega)) (c_X12_refused (by omega)) (st' := [_]) rfl ?_
      first | (rw [show aLamp A x y = aRef A (-1) from by unfold aLamp; rw [if_neg (fun h => of_decide_eq_false c5 h.1)]]; exact je_ret jb_X12_lamp rfl (by rfl) ⟨_, rfl, rfl, J.ref (by omega), (kC.rfl' m).u (by decide) _⟩) | (rw [show aLamp A x y = aRef A (-1) from by unfold aLamp; rw [if_neg (fun h => by rw [h.2] at c13; cases c13)]]; exact je_ret jb_X12_lamp rfl (by rfl) ⟨_, rfl, rfl, J.ref (by omega), (kC.rfl' m).u (by decide) _⟩) | (rw [show aLamp A x y = (fSh (aS A) (aN A) (aW A x.toNat).1 y, A) from by unfold aLamp; rw [if_pos ⟨hu, c13⟩]]; exact je_ret jb_X12_lamp rfl (by rfl) ⟨_, by rw [fSh_at (fHas_t c13) (by have := fS_n fs; omega)], rfl, J, (kC.rfl' m)⟩)
    · refine je_ps jb_X12_lamp 3 (pc' := 19) (ls' := [_, _, _]) (st' := [_, _, _]) rfl ?_
      refine je_cvP' jb_X12_lamp rfl (pc' := 22) rfl (jh_at (a := 45) rfl) (by rfl) (by first | decide | exact Nat.ble_eq_true_of_le (by omega)) (k_gat gu (fHas_t c13)) (st' := [_]) rfl ?_
      refine je_ps jb_X12_lamp 1 (pc' := 30) (ls' := [_, _, _]) (st' := [_]) rfl ?_
      first | (rw [show aLamp A x y = aRef A (-1) from by unfold aLamp; rw [if_neg (fun h => of_decide_eq_false c5 h.1)]]; exact je_ret jb_X12_lamp rfl (by rfl) ⟨_, rfl, rfl, J.ref (by omega), (kC.rfl' m).u (by decide) _⟩) | (rw [show aLamp A x y = aRef A (-1) from by unfold aLamp; rw [if_neg (fun h => by rw [h.2] at c13; cases c13)]]; exact je_ret jb_X12_lamp rfl (by rfl) ⟨_, rfl, rfl, J.ref (by omega), (kC.rfl' m).u (by decide) _⟩) | (rw [show aLamp A x y = (fSh (aS A) (aN A) (aW A x.toNat).1 y, A) from by unfold aLamp; rw [if_pos ⟨hu, c13⟩]]; exact je_ret jb_X12_lamp rfl (by rfl) ⟨_, by rw [fSh_at (fHas_t c13) (by have := fS_n fs; omega)], rfl, J, (kC.rfl' m)⟩)
theorem gl_drop {A : aT} (O : aOk A) (J : iG A m)  : jq sc 4 jm_X12_drop [.ref 45] (jh m r T) (gQ (aDrop A) m r T) := by
  have c6 := O.c6
  have fs := O.fs
  have jc := J.c
  refine je_in jb_X12_drop rfl (ls := [_]) rfl ?_
  refine je_ps jb_X12_drop 1 (pc' := 1) (ls' := [_]) (st' := [_]) rfl ?_
  refine je_get jb_X12_drop rfl (pc' := 4) rfl (jh_at (a := 45) rfl) (by rfl) (by rfl) ?_
  refine je_ifne jb_X12_drop rfl (t := 14) rfl (pc' := 7) rfl (by first | omega | exact (hM _ _).1 | exact (hM _ _).2) (by first | omega | exact (hM _ _).1 | exact (hM _ _).2) (fun c4 => ?_) (fun c4 => ?_)
  · refine je_ps jb_X12_drop 2 (pc' := 16) (ls' := [_]) (st' := [_, _]) rfl ?_
    refine je_get jb_X12_drop rfl (pc' := 19) rfl (jh_at (a := 45) rfl) (by rfl) (by rfl) ?_
    refine je_ps jb_X12_drop 1 (pc' := 20) (ls' := [_]) (st' := [_, _, _]) rfl ?_
    refine je_isub jb_X12_drop rfl (pc' := 21) rfl ?_
    refine je_putI jb_X12_drop rfl (pc' := 24) rfl (j := 5) (a := 45) rfl (by rfl) (by rfl) (by rfl) (by rfl) ?_
    skip
    refine je_ps jb_X12_drop 1 (pc' := 25) (ls' := [_]) (st' := [_]) rfl ?_
    refine je_get jb_X12_drop rfl (pc' := 28) rfl (jh_at (a := 45) rfl) (by rfl) (by rfl) ?_
    rw [jU_same, ju_same]
    rw [show aDrop A = ((aC A : Int) - 1, sC A (aC A - 1)) from by unfold aDrop; rw [if_pos (by omega)], jc]
    exact je_ret jb_X12_drop rfl (by rfl) ⟨_, rfl, rfl, J.drop (c := aC A - 1) (by omega) (by omega), (kC.rfl' m).u (by decide) _⟩
  · refine je_ps jb_X12_drop 2 (pc' := 10) (ls' := [_]) (st' := [_, _]) rfl ?_
    refine je_cvP' jb_X12_drop rfl (pc' := 13) rfl (jh_at (a := 45) rfl) (by rfl) (by first | decide | exact Nat.ble_eq_true_of_le (by omega)) (c_X12_refused (by omega)) (st' := [_]) rfl ?_
    rw [show aDrop A = aRef A (-3) from by unfold aDrop; rw [if_neg (by omega)]]
    exact je_ret jb_X12_drop rfl (by rfl) ⟨_, rfl, rfl, J.ref (by omega), (kC.rfl' m).u (by decide) _⟩
theorem gl_distance {A : aT} (O : aOk A) (J : iG A m) {x y : Int} (hx : -2147483648 ≤ x ∧ x ≤ 2147483647) (hy : -2147483648 ≤ y ∧ y ≤ 2147483647) : jq sc 10 jm_X12_distance [.ref 45, .int (jI x), .int (jI y)] (jh m r T) (gQ (aDist A x y) m r T) := by
  have c6 := O.c6
  have fs := O.fs
  have jc := J.c
  refine je_in jb_X12_distance rfl (ls := [_, _, _, _]) rfl ?_
  refine je_ps jb_X12_distance 2 (pc' := 2) (ls' := [_, _, _, _]) (st' := [_, _]) rfl ?_
  refine je_cvP' jb_X12_distance rfl (pc' := 5) rfl (jh_at (a := 45) rfl) (by rfl) (by first | decide | exact Nat.ble_eq_true_of_le (by omega)) (k_gisWalk J.c (by omega) hx) (st' := [_]) rfl ?_
  refine je_ifeqb jb_X12_distance rfl (t := 16) rfl (pc' := 8) rfl (fun c5 => ?_) (fun c5 => ?_)
  · refine je_ps jb_X12_distance 2 (pc' := 18) (ls' := [_, _, _, _]) (st' := [_, _]) rfl ?_
    refine je_cvP' jb_X12_distance rfl (pc' := 21) rfl (jh_at (a := 45) rfl) (by rfl) (by first | decide | exact Nat.ble_eq_true_of_le (by omega)) (c_X12_refused (by omega)) (st' := [_]) rfl ?_
    first | (rw [show aDist A x y = aRef A (-1) from by unfold aDist; rw [if_neg (fun h => of_decide_eq_false c5 h.1)]]; exact je_ret jb_X12_distance rfl (by rfl) ⟨_, rfl, rfl, J.ref (by omega), (kC.rfl' m).u (by decide) _⟩) | (rw [show aDist A x y = aRef A (-1) from by unfold aDist; rw [if_neg (fun h => of_decide_eq_false c13 h.2)]]; exact je_ret jb_X12_distance rfl (by rfl) ⟨_, rfl, rfl, J.ref (by omega), (kC.rfl' m).u (by decide) _⟩)
  · refine je_ps jb_X12_distance 2 (pc' := 10) (ls' := [_, _, _, _]) (st' := [_, _]) rfl ?_
    refine je_cvP' jb_X12_distance rfl (pc' := 13) rfl (jh_at (a := 45) rfl) (by rfl) (by first | decide | exact Nat.ble_eq_true_of_le (by omega)) (k_gisWalk J.c (by omega) hy) (st' := [_]) rfl ?_
    refine je_ifneb jb_X12_distance rfl (t := 22) rfl (pc' := 16) rfl (fun c13 => ?_) (fun c13 => ?_)
    · have hu := of_decide_eq_true c5
      have gu := J.wk O hu
      have ou := O.wo (i := x.toNat) (by omega)
      have hv := of_decide_eq_true c13
      have gv := J.wk O hv
      have ov := O.wo (i := y.toNat) (by omega)
      have gn := fS_n fs
      have hk : 2 ≤ aK A ∧ aK A ≤ 5 := fs.2
      have od := aDi_ok (by omega) ou.1 ov.1
      have bt := fTn_i od.1 (by omega)
      have be := fC_i fs ou.2.1
      have be2 := fC_i fs ov.2.1
      have bz := fTour_i (L := aDi A x y) fs (e := (aW A y.toNat).2) (st := (aW A x.toNat).2) be2 be
      obtain ⟨s1, s2, s3, s4⟩ := J.st.1
      refine je_ps jb_X12_distance 2 (pc' := 24) (ls' := [_, _, _, _]) (st' := []) rfl ?_
      refine je_loop (fun (p : Nat) ls σ' => ls = [.ref 45, .int (jI x), .int (jI y), .int (jI p)] ∧ σ' = jh (jU m 51 (jF (m 51) (aDi A x y) p)) r T) ((aN A).toNat) ⟨rfl, jh_eq (by rw [show ((0 : Nat) : Int) = 0 from rfl, jF_0, jU_self])⟩ (fun p hp ls σ' gp kp => ?_) (fun ls σ' gp => ?_)
      · obtain ⟨rfl, rfl⟩ := gp
        have d1 : gD m (jU m 51 (jF (m 51) (aDi A x y) p)) := (gD.rfl' m).d _
        have e1 := (d1.k gu).2.2.1 (p : Int) (by omega) (by omega)
        have e2 := (d1.k gv).2.2.1 (p : Int) (by omega) (by omega)
        obtain ⟨t1, t2, t3, t4⟩ := (d1.st J.st).1
        have b1 := ou.1.1 (p : Int)
        have b2 := ov.1.1 (p : Int)
        refine je_ps jb_X12_distance 2 (pc' := 26) (ls' := [_, _, _, _]) (st' := [_, _]) rfl ?_
        refine je_get jb_X12_distance rfl (pc' := 29) rfl (jh_at (a := 45) rfl) (by rfl) (by rfl) ?_
        refine je_icmpge jb_X12_distance rfl (t := 74) rfl (pc' := 32) rfl (by first | omega | exact (hM _ _).1 | exact (hM _ _).2) (by first | omega | exact (hM _ _).1 | exact (hM _ _).2) (by first | omega | exact (hM _ _).1 | exact (hM _ _).2) (by first | omega | exact (hM _ _).1 | exact (hM _ _).2) (fun c29 => ?_) (fun c29 => ?_)
        · first | (exfalso; omega) | (cases c29; done) | (exfalso; simp_all; done)
        · refine je_ps jb_X12_distance 1 (pc' := 33) (ls' := [_, _, _, _]) (st' := [_]) rfl ?_
          refine je_get jb_X12_distance rfl (pc' := 36) rfl (jh_at (a := 45) rfl) (by rfl) (by rfl) ?_
          refine je_ps jb_X12_distance 2 (pc' := 38) (ls' := [_, _, _, _]) (st' := [_, _, _]) rfl ?_
          refine je_get jb_X12_distance rfl (pc' := 41) rfl (jh_at (a := 45) rfl) (by rfl) (by rfl) ?_
          refine je_ps jb_X12_distance 2 (pc' := 44) (ls' := [_, _, _, _]) (st' := [_, _, _, _, _]) rfl ?_
          refine je_imul jb_X12_distance rfl (pc' := 45) rfl ?_
          refine je_ps jb_X12_distance 1 (pc' := 46) (ls' := [_, _, _, _]) (st' := [_, _, _, _, _]) rfl ?_
          refine je_iadd jb_X12_distance rfl (pc' := 47) rfl ?_
          refine je_iald jb_X12_distance rfl (pc' := 48) rfl (n := 225) (f := _) (jh_at (a := 47) rfl) (by first | omega | exact (hM _ _).1 | exact (hM _ _).2) (by first | omega | exact (hM _ _).1 | exact (hM _ _).2) (by first | omega | exact (hM _ _).1 | exact (hM _ _).2) ?_
          refine je_ps jb_X12_distance 1 (pc' := 49) (ls' := [_, _, _, _]) (st' := [_, _, _, _]) rfl ?_
          refine je_get jb_X12_distance rfl (pc' := 52) rfl (jh_at (a := 45) rfl) (by rfl) (by rfl) ?_
          refine je_ps jb_X12_distance 2 (pc' := 55) (ls' := [_, _, _, _]) (st' := [_, _, _, _, _, _]) rfl ?_
          refine je_imul jb_X12_distance rfl (pc' := 56) rfl ?_
          refine je_ps jb_X12_distance 1 (pc' := 57) (ls' := [_, _, _, _]) (st' := [_, _, _, _, _, _]) rfl ?_
          refine je_iadd jb_X12_distance rfl (pc' := 58) rfl ?_
          refine je_iald jb_X12_distance rfl (pc' := 59) rfl (n := 225) (f := _) (jh_at (a := 47) rfl) (by first | omega | exact (hM _ _).1 | exact (hM _ _).2) (by first | omega | exact (hM _ _).1 | exact (hM _ _).2) (by first | omega | exact (hM _ _).1 | exact (hM _ _).2) ?_
          refine je_isub jb_X12_distance rfl (pc' := 60) rfl ?_
          refine je_ps jb_X12_distance 1 (pc' := 61) (ls' := [_, _, _, _]) (st' := [_, _, _, _]) rfl ?_
          refine je_get jb_X12_distance rfl (pc' := 64) rfl (jh_at (a := 45) rfl) (by rfl) (by rfl) ?_
          refine je_fm jb_X12_distance rfl (pc' := 67) rfl rfl rfl (by first | omega | exact (hM _ _).1 | exact (hM _ _).2) (by first | omega | exact (hM _ _).1 | exact (hM _ _).2) (by first | omega | exact (hM _ _).1 | exact (hM _ _).2) (by first | omega | exact (hM _ _).1 | exact (hM _ _).2) ?_
          refine je_iastI jb_X12_distance rfl (pc' := 68) rfl (n := 25) (a := 51) rfl (fun _ => rfl) (by first | omega | exact (hM _ _).1 | exact (hM _ _).2) (by first | omega | exact (hM _ _).1 | exact (hM _ _).2) (by first | omega | exact (hM _ _).1 | exact (hM _ _).2) ?_
          refine je_iinc jb_X12_distance rfl (pc' := 71) rfl rfl (ls' := [_, _, _, _]) rfl ?_
          refine je_ps jb_X12_distance 1 (pc' := 24) (ls' := [_, _, _, _]) (st' := []) rfl ?_
          refine kp _ _ ⟨rfl, jh_eq ?_⟩
          rw [e1, e2, t4, jU_same, jU_jU, show ((aW A y.toNat).1 (p : Int) - (aW A x.toNat).1 (p : Int)) % aK A = aDi A x y (p : Int) by unfold aDi; rw [fAt_in (by omega), fAt_in (by omega)], jF_s _ (aDi A x y) _ (by omega)]
          rfl
      · obtain ⟨rfl, rfl⟩ := gp
        have d1 : gD m (jU m 51 (jF (m 51) (aDi A x y) (aN A).toNat)) := (gD.rfl' m).d _
        obtain ⟨t1, t2, t3, t4⟩ := (d1.st J.st).1
        refine je_ps jb_X12_distance 2 (pc' := 26) (ls' := [_, _, _, _]) (st' := [_, _]) rfl ?_
        refine je_get jb_X12_distance rfl (pc' := 29) rfl (jh_at (a := 45) rfl) (by rfl) (by rfl) ?_
        refine je_icmpge jb_X12_distance rfl (t := 74) rfl (pc' := 32) rfl (by first | omega | exact (hM _ _).1 | exact (hM _ _).2) (by first | omega | exact (hM _ _).1 | exact (hM _ _).2) (by first | omega | exact (hM _ _).1 | exact (hM _ _).2) (by first | omega | exact (hM _ _).1 | exact (hM _ _).2) (fun c29 => ?_) (fun c29 => ?_)
        · have dv : gDu (jU m 51 (jF (m 51) (aDi A x y) (aN A).toNat)) (aN A) (aDi A x y) := fun p p0 p1 => by rw [jU_same]; unfold jF; rw [if_pos (by omega)]
          refine je_ps jb_X12_distance 1 (pc' := 75) (ls' := [_, _, _, _]) (st' := [_]) rfl ?_
          refine je_cvP' jb_X12_distance rfl (pc' := 78) rfl (jh_at (a := 45) rfl) (by rfl) (by first | decide | exact Nat.ble_eq_true_of_le (by omega)) (k_gturns (d1.st J.st) dv od.1) (st' := [_]) rfl ?_
          refine je_ps jb_X12_distance 2 (pc' := 80) (ls' := [_, _, _, _]) (st' := [_, _, _]) rfl ?_
          refine je_get jb_X12_distance rfl (pc' := 83) rfl (jh_at (a := 45) rfl) (by rfl) (by rfl) ?_
          refine je_ps jb_X12_distance 1 (pc' := 84) (ls' := [_, _, _, _]) (st' := [_, _, _, _]) rfl ?_
          refine je_iald jb_X12_distance rfl (pc' := 85) rfl (n := 9) (f := _) (jh_at (a := 48) rfl) (by first | omega | exact (hM _ _).1 | exact (hM _ _).2) (by first | omega | exact (hM _ _).1 | exact (hM _ _).2) (by first | omega | exact (hM _ _).1 | exact (hM _ _).2) ?_
          rw [(d1.k gu).2.2.2.1]
          refine je_ps jb_X12_distance 1 (pc' := 86) (ls' := [_, _, _, _]) (st' := [_, _, _, _]) rfl ?_
          refine je_get jb_X12_distance rfl (pc' := 89) rfl (jh_at (a := 45) rfl) (by rfl) (by rfl) ?_
          refine je_ps jb_X12_distance 1 (pc' := 90) (ls' := [_, _, _, _]) (st' := [_, _, _, _, _]) rfl ?_
          refine je_iald jb_X12_distance rfl (pc' := 91) rfl (n := 9) (f := _) (jh_at (a := 48) rfl) (by first | omega | exact (hM _ _).1 | exact (hM _ _).2) (by first | omega | exact (hM _ _).1 | exact (hM _ _).2) (by first | omega | exact (hM _ _).1 | exact (hM _ _).2) ?_
          rw [(d1.k gv).2.2.2.1]
          refine je_cv jb_X12_distance rfl (pc' := 94) rfl (jh_at (a := 45) rfl) (by rfl) (by first | decide | exact Nat.ble_eq_true_of_le (by omega)) (k_gtour (d1.st J.st) dv od.1 ou.2.1 ov.2.1) ?_
          rintro _ _ ⟨m1, rfl, rfl, h1⟩
          show je _ _ _ _ _ [_, _] _ _
          refine je_iadd jb_X12_distance rfl (pc' := 95) rfl ?_
          rw [show aDist A x y = (fTn (aK A) (aDi A x y) + fTour (aS A) (aN A) (aDi A x y) (aW A y.toNat).2 (aW A x.toNat).2, A) from by unfold aDist; rw [if_pos ⟨hu, hv⟩]]
          exact je_ret jb_X12_distance rfl (by rfl) ⟨_, rfl, rfl, J.y c6 (d1.tr h1).y, (kC.rfl' m).y (d1.tr h1).y⟩
        · first | (exfalso; omega) | (cases c29; done) | (exfalso; simp_all; done)
    · refine je_ps jb_X12_distance 2 (pc' := 18) (ls' := [_, _, _, _]) (st' := [_, _]) rfl ?_
      refine je_cvP' jb_X12_distance rfl (pc' := 21) rfl (jh_at (a := 45) rfl) (by rfl) (by first | decide | exact Nat.ble_eq_true_of_le (by omega)) (c_X12_refused (by omega)) (st' := [_]) rfl ?_
      first | (rw [show aDist A x y = aRef A (-1) from by unfold aDist; rw [if_neg (fun h => of_decide_eq_false c5 h.1)]]; exact je_ret jb_X12_distance rfl (by rfl) ⟨_, rfl, rfl, J.ref (by omega), (kC.rfl' m).u (by decide) _⟩) | (rw [show aDist A x y = aRef A (-1) from by unfold aDist; rw [if_neg (fun h => of_decide_eq_false c13 h.2)]]; exact je_ret jb_X12_distance rfl (by rfl) ⟨_, rfl, rfl, J.ref (by omega), (kC.rfl' m).u (by decide) _⟩)
theorem gl_like {A : aT} (O : aOk A) (J : iG A m) {x y : Int} (hx : -2147483648 ≤ x ∧ x ≤ 2147483647) (hy : -2147483648 ≤ y ∧ y ≤ 2147483647) : jq sc 8 jm_X12_like [.ref 45, .int (jI x), .int (jI y)] (jh m r T) (gQ (aLike A x y) m r T) := by
  have c6 := O.c6
  have fs := O.fs
  have jc := J.c
  refine je_in jb_X12_like rfl (ls := [_, _, _]) rfl ?_
  refine je_ps jb_X12_like 2 (pc' := 2) (ls' := [_, _, _]) (st' := [_, _]) rfl ?_
  refine je_cvP' jb_X12_like rfl (pc' := 5) rfl (jh_at (a := 45) rfl) (by rfl) (by first | decide | exact Nat.ble_eq_true_of_le (by omega)) (k_gisWalk J.c (by omega) hx) (st' := [_]) rfl ?_
  refine je_ifeqb jb_X12_like rfl (t := 16) rfl (pc' := 8) rfl (fun c5 => ?_) (fun c5 => ?_)
  · refine je_ps jb_X12_like 2 (pc' := 18) (ls' := [_, _, _]) (st' := [_, _]) rfl ?_
    refine je_cvP' jb_X12_like rfl (pc' := 21) rfl (jh_at (a := 45) rfl) (by rfl) (by first | decide | exact Nat.ble_eq_true_of_le (by omega)) (c_X12_refused (by omega)) (st' := [_]) rfl ?_
    first | (rw [show aLike A x y = aRef A (-1) from by unfold aLike; rw [if_neg (fun h => of_decide_eq_false c5 h.1)]]; exact je_ret jb_X12_like rfl (by rfl) ⟨_, rfl, rfl, J.ref (by omega), (kC.rfl' m).u (by decide) _⟩) | (rw [show aLike A x y = aRef A (-1) from by unfold aLike; rw [if_neg (fun h => of_decide_eq_false c13 h.2)]]; exact je_ret jb_X12_like rfl (by rfl) ⟨_, rfl, rfl, J.ref (by omega), (kC.rfl' m).u (by decide) _⟩)
  · refine je_ps jb_X12_like 2 (pc' := 10) (ls' := [_, _, _]) (st' := [_, _]) rfl ?_
    refine je_cvP' jb_X12_like rfl (pc' := 13) rfl (jh_at (a := 45) rfl) (by rfl) (by first | decide | exact Nat.ble_eq_true_of_le (by omega)) (k_gisWalk J.c (by omega) hy) (st' := [_]) rfl ?_
    refine je_ifneb jb_X12_like rfl (t := 22) rfl (pc' := 16) rfl (fun c13 => ?_) (fun c13 => ?_)
    · have hu := of_decide_eq_true c5
      have gu := J.wk O hu
      have ou := O.wo (i := x.toNat) (by omega)
      have hv := of_decide_eq_true c13
      have gv := J.wk O hv
      have ov := O.wo (i := y.toNat) (by omega)
      refine je_ps jb_X12_like 3 (pc' := 25) (ls' := [_, _, _]) (st' := [_, _, _]) rfl ?_
      refine je_cvP' jb_X12_like rfl (pc' := 28) rfl (jh_at (a := 45) rfl) (by rfl) (by first | decide | exact Nat.ble_eq_true_of_le (by omega)) (k_gisLike gu gv) (st' := [_]) rfl ?_
      refine je_ifeqb jb_X12_like rfl (t := 35) rfl (pc' := 31) rfl (fun c28 => ?_) (fun c28 => ?_)
      · refine je_ps jb_X12_like 1 (pc' := 36) (ls' := [_, _, _]) (st' := [_]) rfl ?_
        rw [show aLike A x y = (jb (fLike (aS A) (aN A) (aK A) (aW A x.toNat).1 (aW A x.toNat).2 (aW A y.toNat).1 (aW A y.toNat).2), A) from by unfold aLike; rw [if_pos ⟨hu, hv⟩]]
        rw [c28]
        exact je_ret jb_X12_like rfl (by rfl) ⟨_, rfl, rfl, J, (kC.rfl' m)⟩
      · refine je_ps jb_X12_like 2 (pc' := 36) (ls' := [_, _, _]) (st' := [_]) rfl ?_
        rw [show aLike A x y = (jb (fLike (aS A) (aN A) (aK A) (aW A x.toNat).1 (aW A x.toNat).2 (aW A y.toNat).1 (aW A y.toNat).2), A) from by unfold aLike; rw [if_pos ⟨hu, hv⟩]]
        rw [c28]
        exact je_ret jb_X12_like rfl (by rfl) ⟨_, rfl, rfl, J, (kC.rfl' m)⟩
    · refine je_ps jb_X12_like 2 (pc' := 18) (ls' := [_, _, _]) (st' := [_, _]) rfl ?_
      refine je_cvP' jb_X12_like rfl (pc' := 21) rfl (jh_at (a := 45) rfl) (by rfl) (by first | decide | exact Nat.ble_eq_true_of_le (by omega)) (c_X12_refused (by omega)) (st' := [_]) rfl ?_
      first | (rw [show aLike A x y = aRef A (-1) from by unfold aLike; rw [if_neg (fun h => of_decide_eq_false c5 h.1)]]; exact je_ret jb_X12_like rfl (by rfl) ⟨_, rfl, rfl, J.ref (by omega), (kC.rfl' m).u (by decide) _⟩) | (rw [show aLike A x y = aRef A (-1) from by unfold aLike; rw [if_neg (fun h => of_decide_eq_false c13 h.2)]]; exact je_ret jb_X12_like rfl (by rfl) ⟨_, rfl, rfl, J.ref (by omega), (kC.rfl' m).u (by decide) _⟩)
theorem gl_sums {A : aT} (O : aOk A) (J : iG A m) {x y : Int} (hx : -2147483648 ≤ x ∧ x ≤ 2147483647) (hy : -2147483648 ≤ y ∧ y ≤ 2147483647) : jq sc 8 jm_X12_sums [.ref 45, .int (jI x), .int (jI y)] (jh m r T) (gQ (aSums A x y) m r T) := by
  have c6 := O.c6
  have fs := O.fs
  have jc := J.c
  refine je_in jb_X12_sums rfl (ls := [_, _, _, _]) rfl ?_
  refine je_ps jb_X12_sums 2 (pc' := 2) (ls' := [_, _, _, _]) (st' := [_, _]) rfl ?_
  refine je_cvP' jb_X12_sums rfl (pc' := 5) rfl (jh_at (a := 45) rfl) (by rfl) (by first | decide | exact Nat.ble_eq_true_of_le (by omega)) (k_gisWalk J.c (by omega) hx) (st' := [_]) rfl ?_
  refine je_ifneb jb_X12_sums rfl (t := 14) rfl (pc' := 8) rfl (fun c5 => ?_) (fun c5 => ?_)
  · have hu := of_decide_eq_true c5
    have gu := J.wk O hu
    have ou := O.wo (i := x.toNat) (by omega)
    have gm := fMany_i fs ou.2.1
    refine je_ps jb_X12_sums 2 (pc' := 16) (ls' := [_, _, _, _]) (st' := [_, _]) rfl ?_
    refine je_icmpge jb_X12_sums rfl (t := 26) rfl (pc' := 19) rfl (by first | omega | exact (hM _ _).1 | exact (hM _ _).2) (by first | omega | exact (hM _ _).1 | exact (hM _ _).2) (by first | omega | exact (hM _ _).1 | exact (hM _ _).2) (by first | omega | exact (hM _ _).1 | exact (hM _ _).2) (fun c16 => ?_) (fun c16 => ?_)
    · refine je_ps jb_X12_sums 2 (pc' := 28) (ls' := [_, _, _, _]) (st' := [_, _]) rfl ?_
      refine je_cvP' jb_X12_sums rfl (pc' := 31) rfl (jh_at (a := 45) rfl) (by rfl) (by first | decide | exact Nat.ble_eq_true_of_le (by omega)) (k_gsumMany gu) (st' := [_]) rfl ?_
      refine je_ps jb_X12_sums 3 (pc' := 34) (ls' := [_, _, _, _]) (st' := [_, _]) rfl ?_
      refine je_icmpne jb_X12_sums rfl (t := 39) rfl (pc' := 37) rfl (by first | omega | exact (hM _ _).1 | exact (hM _ _).2) (by first | omega | exact (hM _ _).1 | exact (hM _ _).2) (by first | omega | exact (hM _ _).1 | exact (hM _ _).2) (by first | omega | exact (hM _ _).1 | exact (hM _ _).2) (fun c34 => ?_) (fun c34 => ?_)
      · refine je_ps jb_X12_sums 2 (pc' := 41) (ls' := [_, _, _, _]) (st' := [_, _]) rfl ?_
        refine je_icmpge jb_X12_sums rfl (t := 54) rfl (pc' := 44) rfl (by first | omega | exact (hM _ _).1 | exact (hM _ _).2) (by first | omega | exact (hM _ _).1 | exact (hM _ _).2) (by first | omega | exact (hM _ _).1 | exact (hM _ _).2) (by first | omega | exact (hM _ _).1 | exact (hM _ _).2) (fun c41 => ?_) (fun c41 => ?_)
        · refine je_ps jb_X12_sums 1 (pc' := 56) (ls' := [_, _, _, _]) (st' := [_]) rfl ?_
          first | (rw [show aSums A x y = (fSm (aS A) (aK A) (aW A x.toNat).1 y (fMany (aS A) (aN A) (aW A x.toNat).2), A) from by unfold aSums; rw [if_pos hu, if_neg (by omega), if_neg (by omega), if_pos (by omega)]]; exact je_ret jb_X12_sums rfl (by rfl) ⟨_, rfl, rfl, J, (kC.rfl' m)⟩) | (rw [show aSums A x y = (-9, A) from by unfold aSums; rw [if_pos hu, if_neg (by omega), if_neg (by omega), if_neg (by omega)]]; exact je_ret jb_X12_sums rfl (by rfl) ⟨_, rfl, rfl, J, (kC.rfl' m)⟩)
        · refine je_ps jb_X12_sums 4 (pc' := 48) (ls' := [_, _, _, _]) (st' := [_, _, _, _]) rfl ?_
          refine je_cvP' jb_X12_sums rfl (pc' := 51) rfl (jh_at (a := 45) rfl) (by rfl) (by first | decide | exact Nat.ble_eq_true_of_le (by omega)) (k_gsum gu hy (by omega)) (st' := [_]) rfl ?_
          refine je_ps jb_X12_sums 1 (pc' := 56) (ls' := [_, _, _, _]) (st' := [_]) rfl ?_
          first | (rw [show aSums A x y = (fSm (aS A) (aK A) (aW A x.toNat).1 y (fMany (aS A) (aN A) (aW A x.toNat).2), A) from by unfold aSums; rw [if_pos hu, if_neg (by omega), if_neg (by omega), if_pos (by omega)]]; exact je_ret jb_X12_sums rfl (by rfl) ⟨_, rfl, rfl, J, (kC.rfl' m)⟩) | (rw [show aSums A x y = (-9, A) from by unfold aSums; rw [if_pos hu, if_neg (by omega), if_neg (by omega), if_neg (by omega)]]; exact je_ret jb_X12_sums rfl (by rfl) ⟨_, rfl, rfl, J, (kC.rfl' m)⟩)
      · refine je_ps jb_X12_sums 1 (pc' := 38) (ls' := [_, _, _, _]) (st' := [_]) rfl ?_
        rw [show aSums A x y = (fMany (aS A) (aN A) (aW A x.toNat).2, A) from by unfold aSums; rw [if_pos hu, if_neg (by omega), if_pos (by omega)]]
        exact je_ret jb_X12_sums rfl (by rfl) ⟨_, rfl, rfl, J, (kC.rfl' m)⟩
    · refine je_ps jb_X12_sums 2 (pc' := 22) (ls' := [_, _, _, _]) (st' := [_, _]) rfl ?_
      refine je_cvP' jb_X12_sums rfl (pc' := 25) rfl (jh_at (a := 45) rfl) (by rfl) (by first | decide | exact Nat.ble_eq_true_of_le (by omega)) (c_X12_refused (by omega)) (st' := [_]) rfl ?_
      rw [show aSums A x y = aRef A (-4) from by unfold aSums; rw [if_pos hu, if_pos (by omega)]]
      exact je_ret jb_X12_sums rfl (by rfl) ⟨_, rfl, rfl, J.ref (by omega), (kC.rfl' m).u (by decide) _⟩
  · refine je_ps jb_X12_sums 2 (pc' := 10) (ls' := [_, _, _, _]) (st' := [_, _]) rfl ?_
    refine je_cvP' jb_X12_sums rfl (pc' := 13) rfl (jh_at (a := 45) rfl) (by rfl) (by first | decide | exact Nat.ble_eq_true_of_le (by omega)) (c_X12_refused (by omega)) (st' := [_]) rfl ?_
    rw [show aSums A x y = aRef A (-1) from by unfold aSums; rw [if_neg (of_decide_eq_false c5)]]
    exact je_ret jb_X12_sums rfl (by rfl) ⟨_, rfl, rfl, J.ref (by omega), (kC.rfl' m).u (by decide) _⟩
theorem gl_odds {A : aT} (O : aOk A) (J : iG A m) {x y : Int} (hx : -2147483648 ≤ x ∧ x ≤ 2147483647) (hy : -2147483648 ≤ y ∧ y ≤ 2147483647) : jq sc 8 jm_X12_odds [.ref 45, .int (jI x), .int (jI y)] (jh m r T) (gQl (aOdds A x y) m r T) := by
  have c6 := O.c6
  have fs := O.fs
  have jc := J.c
  refine je_in jb_X12_odds rfl (ls := [_, _, _, _]) rfl ?_
  refine je_ps jb_X12_odds 2 (pc' := 2) (ls' := [_, _, _, _]) (st' := [_, _]) rfl ?_
  refine je_cvP' jb_X12_odds rfl (pc' := 5) rfl (jh_at (a := 45) rfl) (by rfl) (by first | decide | exact Nat.ble_eq_true_of_le (by omega)) (k_gisWalk J.c (by omega) hx) (st' := [_]) rfl ?_
  refine je_ifneb jb_X12_odds rfl (t := 19) rfl (pc' := 8) rfl (fun c5 => ?_) (fun c5 => ?_)
  · have hu := of_decide_eq_true c5
    have gu := J.wk O hu
    have ou := O.wo (i := x.toNat) (by omega)
    have bl := fLit_i (L := (aW A x.toNat).1)
    have bn := fS_n fs
    have s2 := J.st.1.2.1
    have bg := fGd_i (fLit (aW A x.toNat).1) (aN A) (max (fLit (aW A x.toNat).1) (aN A)).toNat
    have bg2 : 1 ≤ fGcd (fLit (aW A x.toNat).1) (aN A) ∧ fGcd (fLit (aW A x.toNat).1) (aN A) ≤ 25 := by unfold fGcd; omega
    have eg : max (fGcd (fLit (aW A x.toNat).1) (aN A)) 1 = fGcd (fLit (aW A x.toNat).1) (aN A) := by omega
    refine je_ps jb_X12_odds 3 (pc' := 22) (ls' := [_, _, _, _]) (st' := [_, _, _]) rfl ?_
    refine je_csP' jb_X12_odds rfl (pc' := 25) rfl (by rfl) (by first | decide | exact Nat.ble_eq_true_of_le (by omega)) (c_X12_isIn (by omega) (by omega) (by omega)) (st' := [_]) rfl ?_
    refine je_ifneb jb_X12_odds rfl (t := 40) rfl (pc' := 28) rfl (fun c25 => ?_) (fun c25 => ?_)
    · refine je_ps jb_X12_odds 2 (pc' := 42) (ls' := [_, _, _, _]) (st' := [_, _]) rfl ?_
      refine je_cvP' jb_X12_odds rfl (pc' := 45) rfl (jh_at (a := 45) rfl) (by rfl) (by first | decide | exact Nat.ble_eq_true_of_le (by omega)) (k_glit gu) (st' := [_]) rfl ?_
      refine je_ps jb_X12_odds 1 (pc' := 46) (ls' := [_, _, _, _]) (st' := [_, _]) rfl ?_
      refine je_get jb_X12_odds rfl (pc' := 49) rfl (jh_at (a := 45) rfl) (by rfl) (by rfl) ?_
      rw [s2]
      refine je_csP' jb_X12_odds rfl (pc' := 52) rfl (by rfl) (by first | decide | exact Nat.ble_eq_true_of_le (by omega)) (c_X12_divisor (by omega) (by omega)) (st' := [_]) rfl ?_
      refine je_ps jb_X12_odds 2 (pc' := 54) (ls' := [_, _, _, _]) (st' := [_]) rfl ?_
      refine je_ifne jb_X12_odds rfl (t := 68) rfl (pc' := 57) rfl (by first | omega | exact (hM _ _).1 | exact (hM _ _).2) (by first | omega | exact (hM _ _).1 | exact (hM _ _).2) (fun c54 => ?_) (fun c54 => ?_)
      · refine je_ps jb_X12_odds 1 (pc' := 69) (ls' := [_, _, _, _]) (st' := [_]) rfl ?_
        refine je_get jb_X12_odds rfl (pc' := 72) rfl (jh_at (a := 45) rfl) (by rfl) (by rfl) ?_
        rw [s2]
        refine je_ps jb_X12_odds 1 (pc' := 73) (ls' := [_, _, _, _]) (st' := [_, _]) rfl ?_
        refine je_idiv jb_X12_odds rfl (pc' := 74) rfl (by first | omega | exact (hM _ _).1 | exact (hM _ _).2) (by first | omega | exact (hM _ _).1 | exact (hM _ _).2) (by first | omega | exact (hM _ _).1 | exact (hM _ _).2) (by first | omega | exact (hM _ _).1 | exact (hM _ _).2) ?_
        have bq := aOdds_i (A := A) (i := x.toNat) (y := y) bl (by omega)
        unfold aOddsV at bq
        rw [if_neg (show ¬ y = 0 by omega), eg] at bq
        refine je_i2l jb_X12_odds rfl (pc' := 75) rfl (by first | omega | exact (hM _ _).1 | exact (hM _ _).2) (by first | omega | exact (hM _ _).1 | exact (hM _ _).2) ?_
        rw [show aOdds A x y = (aOddsV A x.toNat y, A) from by unfold aOdds; rw [if_pos hu, if_pos (by have := of_decide_eq_true c25; omega)]]
        exact je_ret jb_X12_odds rfl (by rfl) ⟨_, by unfold aOddsV; rw [eg]; first | rw [if_pos (show y = 0 by omega)] | rw [if_neg (show ¬ y = 0 by omega)], rfl, J, kC.rfl' m⟩
      · refine je_ps jb_X12_odds 2 (pc' := 59) (ls' := [_, _, _, _]) (st' := [_, _]) rfl ?_
        refine je_cvP' jb_X12_odds rfl (pc' := 62) rfl (jh_at (a := 45) rfl) (by rfl) (by first | decide | exact Nat.ble_eq_true_of_le (by omega)) (k_glit gu) (st' := [_]) rfl ?_
        refine je_ps jb_X12_odds 1 (pc' := 63) (ls' := [_, _, _, _]) (st' := [_, _]) rfl ?_
        refine je_idiv jb_X12_odds rfl (pc' := 64) rfl (by first | omega | exact (hM _ _).1 | exact (hM _ _).2) (by first | omega | exact (hM _ _).1 | exact (hM _ _).2) (by first | omega | exact (hM _ _).1 | exact (hM _ _).2) (by first | omega | exact (hM _ _).1 | exact (hM _ _).2) ?_
        have bq := aOdds_i (A := A) (i := x.toNat) (y := y) bl (by omega)
        unfold aOddsV at bq
        rw [if_pos (show y = 0 by omega), eg] at bq
        refine je_i2l jb_X12_odds rfl (pc' := 65) rfl (by first | omega | exact (hM _ _).1 | exact (hM _ _).2) (by first | omega | exact (hM _ _).1 | exact (hM _ _).2) ?_
        refine je_ps jb_X12_odds 1 (pc' := 75) (ls' := [_, _, _, _]) (st' := [_]) rfl ?_
        rw [show aOdds A x y = (aOddsV A x.toNat y, A) from by unfold aOdds; rw [if_pos hu, if_pos (by have := of_decide_eq_true c25; omega)]]
        exact je_ret jb_X12_odds rfl (by rfl) ⟨_, by unfold aOddsV; rw [eg]; first | rw [if_pos (show y = 0 by omega)] | rw [if_neg (show ¬ y = 0 by omega)], rfl, J, kC.rfl' m⟩
    · refine je_ps jb_X12_odds 3 (pc' := 34) (ls' := [_, _, _, _]) (st' := [_, _, _]) rfl ?_
      refine je_cvP' jb_X12_odds rfl (pc' := 37) rfl (jh_at (a := 45) rfl) (by rfl) (by first | decide | exact Nat.ble_eq_true_of_le (by omega)) (c_X12_refused (by omega)) (st' := [_, _]) rfl ?_
      refine je_i2l jb_X12_odds rfl (pc' := 38) rfl (by first | omega | exact (hM _ _).1 | exact (hM _ _).2) (by first | omega | exact (hM _ _).1 | exact (hM _ _).2) ?_
      refine je_lsub jb_X12_odds rfl (pc' := 39) rfl ?_
      rw [show aOdds A x y = aFarL A (-2) from by unfold aOdds; rw [if_pos hu, if_neg (fun h => of_decide_eq_false c25 (by omega))]]
      exact je_ret jb_X12_odds rfl (by rfl) ⟨_, rfl, rfl, J.ref (by omega), (kC.rfl' m).u (by decide) _⟩
  · refine je_ps jb_X12_odds 3 (pc' := 13) (ls' := [_, _, _, _]) (st' := [_, _, _]) rfl ?_
    refine je_cvP' jb_X12_odds rfl (pc' := 16) rfl (jh_at (a := 45) rfl) (by rfl) (by first | decide | exact Nat.ble_eq_true_of_le (by omega)) (c_X12_refused (by omega)) (st' := [_, _]) rfl ?_
    refine je_i2l jb_X12_odds rfl (pc' := 17) rfl (by first | omega | exact (hM _ _).1 | exact (hM _ _).2) (by first | omega | exact (hM _ _).1 | exact (hM _ _).2) ?_
    refine je_lsub jb_X12_odds rfl (pc' := 18) rfl ?_
    rw [show aOdds A x y = aFarL A (-1) from by unfold aOdds; rw [if_neg (of_decide_eq_false c5)]]
    exact je_ret jb_X12_odds rfl (by rfl) ⟨_, rfl, rfl, J.ref (by omega), (kC.rfl' m).u (by decide) _⟩
theorem gl_step {A : aT} (O : aOk A) (J : iG A m) {x y : Int} (hx : -2147483648 ≤ x ∧ x ≤ 2147483647) (hy : -2147483648 ≤ y ∧ y ≤ 2147483647) : jq sc 8 jm_X12_step [.ref 45, .int (jI x), .int (jI y)] (jh m r T) (gQ (aStep A x y) m r T) := by
  have c6 := O.c6
  have fs := O.fs
  have jc := J.c
  refine je_in jb_X12_step rfl (ls := [_, _, _]) rfl ?_
  refine je_ps jb_X12_step 2 (pc' := 2) (ls' := [_, _, _]) (st' := [_, _]) rfl ?_
  refine je_cvP' jb_X12_step rfl (pc' := 5) rfl (jh_at (a := 45) rfl) (by rfl) (by first | decide | exact Nat.ble_eq_true_of_le (by omega)) (k_gisWalk J.c (by omega) hx) (st' := [_]) rfl ?_
  refine je_ifneb jb_X12_step rfl (t := 14) rfl (pc' := 8) rfl (fun c5 => ?_) (fun c5 => ?_)
  · have hu := of_decide_eq_true c5
    have gu := J.wk O hu
    have ou := O.wo (i := x.toNat) (by omega)
    refine je_ps jb_X12_step 3 (pc' := 17) (ls' := [_, _, _]) (st' := [_, _, _]) rfl ?_
    refine je_csP' jb_X12_step rfl (pc' := 20) rfl (by rfl) (by first | decide | exact Nat.ble_eq_true_of_le (by omega)) (c_X12_isIn (by omega) (by omega) (by omega)) (st' := [_]) rfl ?_
    refine je_ifneb jb_X12_step rfl (t := 30) rfl (pc' := 23) rfl (fun c20 => ?_) (fun c20 => ?_)
    · refine je_ps jb_X12_step 3 (pc' := 33) (ls' := [_, _, _]) (st' := [_, _, _]) rfl ?_
      refine je_cvP' jb_X12_step rfl (pc' := 36) rfl (jh_at (a := 45) rfl) (by rfl) (by first | decide | exact Nat.ble_eq_true_of_le (by omega)) (k_gdoes gu (of_decide_eq_true c20)) (st' := [_]) rfl ?_
      refine je_ifeqb jb_X12_step rfl (t := 47) rfl (pc' := 39) rfl (fun c36 => ?_) (fun c36 => ?_)
      · refine je_ps jb_X12_step 2 (pc' := 50) (ls' := [_, _, _]) (st' := [_, _]) rfl ?_
        refine je_cvP' jb_X12_step rfl (pc' := 53) rfl (jh_at (a := 45) rfl) (by rfl) (by first | decide | exact Nat.ble_eq_true_of_le (by omega)) (c_X12_refused (by omega)) (st' := [_]) rfl ?_
        first | (have hb := of_decide_eq_true c20; rw [fGo_no c36, gW_self gu]; rw [show aStep A x y = aRef A (-6) from by unfold aStep; rw [if_pos hu, if_pos (by omega), if_neg (by rw [c36]; decide)]]; exact je_ret jb_X12_step rfl (by rfl) ⟨_, rfl, rfl, J.ref (by omega), (kC.rfl' m).u (by decide) _⟩) | (have hb := of_decide_eq_true c20; rw [show aStep A x y = (fLen (aS A) (aN A) (aK A) (fGo (aS A) (aN A) (aK A) (aW A x.toNat).1 (aW A x.toNat).2 y).2.1 (fGo (aS A) (aN A) (aK A) (aW A x.toNat).1 (aW A x.toNat).2 y).2.2, sWk A x.toNat (fGo (aS A) (aN A) (aK A) (aW A x.toNat).1 (aW A x.toNat).2 y).2) from by unfold aStep; rw [if_pos hu, if_pos (by omega), if_pos c36]]; exact je_ret jb_X12_step rfl (by rfl) ⟨_, rfl, rfl, (J.set c6 hu (fGo (aS A) (aN A) (aK A) (aW A x.toNat).1 (aW A x.toNat).2 y).2).y c6 h1.y, (((kC.rfl' m).w x _ _).y h1.y)⟩)
      · have og : wOkk (aS A) (aN A) (aK A) (fGo (aS A) (aN A) (aK A) (aW A x.toNat).1 (aW A x.toNat).2 y).2 := ou.go fs
        have gg := gWk.w (m := m) gu.1 gu.2.1 og.1 og.2.1
        refine je_ps jb_X12_step 2 (pc' := 41) (ls' := [_, _, _]) (st' := [_, _]) rfl ?_
        refine je_cv jb_X12_step rfl (pc' := 44) rfl (jh_at (a := 45) rfl) (by rfl) (by first | decide | exact Nat.ble_eq_true_of_le (by omega)) (k_glength gg) ?_
        rintro _ _ ⟨m1, rfl, rfl, h1⟩
        show je _ _ _ _ _ [_] _ _
        refine je_ps jb_X12_step 1 (pc' := 53) (ls' := [_, _, _]) (st' := [_]) rfl ?_
        first | (have hb := of_decide_eq_true c20; rw [fGo_no c36, gW_self gu]; rw [show aStep A x y = aRef A (-6) from by unfold aStep; rw [if_pos hu, if_pos (by omega), if_neg (by rw [c36]; decide)]]; exact je_ret jb_X12_step rfl (by rfl) ⟨_, rfl, rfl, J.ref (by omega), (kC.rfl' m).u (by decide) _⟩) | (have hb := of_decide_eq_true c20; rw [show aStep A x y = (fLen (aS A) (aN A) (aK A) (fGo (aS A) (aN A) (aK A) (aW A x.toNat).1 (aW A x.toNat).2 y).2.1 (fGo (aS A) (aN A) (aK A) (aW A x.toNat).1 (aW A x.toNat).2 y).2.2, sWk A x.toNat (fGo (aS A) (aN A) (aK A) (aW A x.toNat).1 (aW A x.toNat).2 y).2) from by unfold aStep; rw [if_pos hu, if_pos (by omega), if_pos c36]]; exact je_ret jb_X12_step rfl (by rfl) ⟨_, rfl, rfl, (J.set c6 hu (fGo (aS A) (aN A) (aK A) (aW A x.toNat).1 (aW A x.toNat).2 y).2).y c6 h1.y, (((kC.rfl' m).w x _ _).y h1.y)⟩)
    · refine je_ps jb_X12_step 2 (pc' := 26) (ls' := [_, _, _]) (st' := [_, _]) rfl ?_
      refine je_cvP' jb_X12_step rfl (pc' := 29) rfl (jh_at (a := 45) rfl) (by rfl) (by first | decide | exact Nat.ble_eq_true_of_le (by omega)) (c_X12_refused (by omega)) (st' := [_]) rfl ?_
      rw [show aStep A x y = aRef A (-2) from by unfold aStep; rw [if_pos hu, if_neg (fun h => of_decide_eq_false c20 (by omega))]]
      exact je_ret jb_X12_step rfl (by rfl) ⟨_, rfl, rfl, J.ref (by omega), (kC.rfl' m).u (by decide) _⟩
  · refine je_ps jb_X12_step 2 (pc' := 10) (ls' := [_, _, _]) (st' := [_, _]) rfl ?_
    refine je_cvP' jb_X12_step rfl (pc' := 13) rfl (jh_at (a := 45) rfl) (by rfl) (by first | decide | exact Nat.ble_eq_true_of_le (by omega)) (c_X12_refused (by omega)) (st' := [_]) rfl ?_
    rw [show aStep A x y = aRef A (-1) from by unfold aStep; rw [if_neg (of_decide_eq_false c5)]]
    exact je_ret jb_X12_step rfl (by rfl) ⟨_, rfl, rfl, J.ref (by omega), (kC.rfl' m).u (by decide) _⟩
end C68
