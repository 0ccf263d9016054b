/-! CALLS of the class: what is asked of a walk -/
section C55
variable {sc : Nat × (Nat → Int32)} {m : Nat → Int → Int} {r : Nat → Nat → Value} {T : jx_H} {σ : jx_H}
def aOfv (A : aT) (i : Nat) (y : Int) : Int :=
  if y = 0 then (aW A i).2 else if y = 1 then fLit (aW A i).1 else if y = 2 then fLen (aS A) (aN A) (aK A) (aW A i).1 (aW A i).2 else if y = 3 then fTn (aK A) (aW A i).1 else if y = 4 then fTour (aS A) (aN A) (aW A i).1 (aW A i).2 0 else if y = 5 then jb (!fGrow (aS A) (aN A) (aK A) (fLen (aS A) (aN A) (aK A) (aW A i).1 (aW A i).2) 1 (aW A i).1 (aW A i).2) else if y = 6 then fDep (aS A) (aN A) (aK A) (aW A i).1 (aW A i).2 else fOrd (aS A) (aN A) (aK A) (aW A i).1 (aW A i).2
def aOf (A : aT) (x y : Int) : Int × aT := if (0 ≤ x ∧ x < (aC A : Int)) then (if 0 ≤ y ∧ y ≤ 7 then (aOfv A x.toNat y, A) else aFar A (-2)) else aFar A (-1)
theorem cl_of {A : aT} (I : iC A m r T) {x y : Int} (hx : -2147483648 ≤ x ∧ x ≤ 2147483647) (hy : -2147483648 ≤ y ∧ y ≤ 2147483647) : jq sc 16 jm_X11_of [.ref 0, .int (jI x), .int (jI y)] (jh m r T) (cQ (aOf A x y) m T) := by
  have c6 := I.c6
  have fs := I.fs
  refine je_in jb_X11_of rfl (ls := [_, _, _, _]) rfl ?_
  refine je_ps jb_X11_of 1 (pc' := 1) (ls' := [_, _, _, _]) (st' := [_]) rfl ?_
  refine je_get jb_X11_of rfl (pc' := 4) rfl (jh_at (a := 0) rfl) (by rfl) (by rfl) ?_
  refine je_ps jb_X11_of 1 (pc' := 5) (ls' := [_, _, _, _]) (st' := [_, _]) rfl ?_
  refine je_cvP' jb_X11_of rfl (pc' := 8) rfl (jh_at (a := 1) rfl) (by rfl) (by first | decide | exact Nat.ble_eq_true_of_le (by omega)) (k_walkAt I.c I.c6 hx) (st' := [_]) rfl ?_
  refine je_mv (fun c5 => ?_) (fun c5 => ?_)
  · skip
    refine je_ps jb_X11_of 2 (pc' := 10) (ls' := [_, _, _, _]) (st' := [_]) rfl ?_
    refine je_ifnonnullN jb_X11_of rfl (t := 19) rfl (pc' := 13) rfl ?_
    refine je_ps jb_X11_of 2 (pc' := 15) (ls' := [_, _, _, _]) (st' := [_, _]) rfl ?_
    refine je_cvP' jb_X11_of rfl (pc' := 18) rfl (jh_at (a := 0) rfl) (by rfl) (by first | decide | exact Nat.ble_eq_true_of_le (by omega)) (c_X11_refuseFar (by omega)) (st' := [_]) rfl ?_
    rw [show aOf A x y = aFar A (-1) from by unfold aOf; rw [if_neg c5]]
    exact je_ret jb_X11_of rfl (by rfl) ⟨_, _, _, rfl, rfl, I.ref (by omega), kG.ref m _, tG.rfl' T⟩
  · skip
    have hu : x.toNat < 13 := by omega
    have hun : x.toNat < aC A := by omega
    have gu := I.wk hun
    have ou := I.wo hun
    refine je_ps jb_X11_of 2 (pc' := 10) (ls' := [_, _, _, _]) (st' := [_]) rfl ?_
    refine je_ifnonnullR jb_X11_of rfl (t := 19) rfl (pc' := 13) rfl ?_
    refine je_ps jb_X11_of 1 (pc' := 20) (ls' := [_, _, _, _]) (st' := [_]) rfl ?_
    refine je_swc fun y20 ey20 => ?_
    rcases (by omega : y20 = 0 ∨ y20 = 1 ∨ y20 = 2 ∨ y20 = 3 ∨ y20 = 4 ∨ y20 = 5 ∨ y20 = 6 ∨ y20 = 7 ∨ (y20 < 0 ∨ 7 < y20)) with c20 | c20 | c20 | c20 | c20 | c20 | c20 | c20 | c20
    · rw [c20]
      refine je_sw jb_X11_of rfl (t := 68) (st' := []) rfl ?_
      refine je_ps jb_X11_of 1 (pc' := 69) (ls' := [_, _, _, _]) (st' := [_]) rfl ?_
      refine je_get jb_X11_of rfl (pc' := 72) rfl (by first | exact jh_V hu gu | exact jh_V hu (g0.R37 hu _) | exact jh_walk hu) (by rfl) (by rfl) ?_
      rw [show aOf A x y = (aOfv A x.toNat y, A) from by unfold aOf; rw [if_pos c5, if_pos (by omega)]]
      exact je_ret jb_X11_of rfl (by rfl) ⟨_, _, _, by unfold aOfv; rw [if_pos (by omega)], rfl, I, kG.rfl' m, tG.rfl' T⟩
    · rw [c20]
      refine je_sw jb_X11_of rfl (t := 73) (st' := []) rfl ?_
      refine je_ps jb_X11_of 1 (pc' := 74) (ls' := [_, _, _, _]) (st' := [_]) rfl ?_
      refine je_cvP' jb_X11_of rfl (pc' := 77) rfl (by first | exact jh_V hu gu | exact jh_V hu (g0.R37 hu _) | exact jh_walk hu) (by rfl) (by first | decide | exact Nat.ble_eq_true_of_le (by omega)) (k_litLamps hu gu) (st' := [_]) rfl ?_
      rw [show aOf A x y = (aOfv A x.toNat y, A) from by unfold aOf; rw [if_pos c5, if_pos (by omega)]]
      exact je_ret jb_X11_of rfl (by rfl) ⟨_, _, _, by unfold aOfv; rw [if_neg (by omega), if_pos (by omega)], rfl, I, kG.rfl' m, tG.rfl' T⟩
    · rw [c20]
      refine je_sw jb_X11_of rfl (t := 78) (st' := []) rfl ?_
      refine je_ps jb_X11_of 1 (pc' := 79) (ls' := [_, _, _, _]) (st' := [_]) rfl ?_
      refine je_cvP' jb_X11_of rfl (pc' := 82) rfl (by first | exact jh_V hu gu | exact jh_V hu (g0.R37 hu _) | exact jh_walk hu) (by rfl) (by first | decide | exact Nat.ble_eq_true_of_le (by omega)) (k_length hu gu) (st' := [_]) rfl ?_
      rw [show aOf A x y = (aOfv A x.toNat y, A) from by unfold aOf; rw [if_pos c5, if_pos (by omega)]]
      exact je_ret jb_X11_of rfl (by rfl) ⟨_, _, _, by unfold aOfv; rw [if_neg (by omega), if_neg (by omega), if_pos (by omega)], rfl, I, kG.rfl' m, tG.rfl' T⟩
    · rw [c20]
      refine je_sw jb_X11_of rfl (t := 83) (st' := []) rfl ?_
      refine je_ps jb_X11_of 1 (pc' := 84) (ls' := [_, _, _, _]) (st' := [_]) rfl ?_
      refine je_cvP' jb_X11_of rfl (pc' := 87) rfl (by first | exact jh_V hu gu | exact jh_V hu (g0.R37 hu _) | exact jh_walk hu) (by rfl) (by first | decide | exact Nat.ble_eq_true_of_le (by omega)) (k_turns hu gu) (st' := [_]) rfl ?_
      rw [show aOf A x y = (aOfv A x.toNat y, A) from by unfold aOf; rw [if_pos c5, if_pos (by omega)]]
      exact je_ret jb_X11_of rfl (by rfl) ⟨_, _, _, by unfold aOfv; rw [if_neg (by omega), if_neg (by omega), if_neg (by omega), if_pos (by omega)], rfl, I, kG.rfl' m, tG.rfl' T⟩
    · rw [c20]
      refine je_sw jb_X11_of rfl (t := 88) (st' := []) rfl ?_
      refine je_ps jb_X11_of 2 (pc' := 90) (ls' := [_, _, _, _]) (st' := [_, _]) rfl ?_
      refine je_cvP' jb_X11_of rfl (pc' := 93) rfl (by first | exact jh_V hu gu | exact jh_V hu (g0.R37 hu _) | exact jh_walk hu) (by rfl) (by first | decide | exact Nat.ble_eq_true_of_le (by omega)) (k_tourFrom hu gu (by omega)) (st' := [_]) rfl ?_
      rw [show aOf A x y = (aOfv A x.toNat y, A) from by unfold aOf; rw [if_pos c5, if_pos (by omega)]]
      exact je_ret jb_X11_of rfl (by rfl) ⟨_, _, _, by unfold aOfv; rw [if_neg (by omega), if_neg (by omega), if_neg (by omega), if_neg (by omega), if_pos (by omega)], rfl, I, kG.rfl' m, tG.rfl' T⟩
    · rw [c20]
      refine je_sw jb_X11_of rfl (t := 94) (st' := []) rfl ?_
      refine je_ps jb_X11_of 1 (pc' := 95) (ls' := [_, _, _, _]) (st' := [_]) rfl ?_
      refine je_cvP' jb_X11_of rfl (pc' := 98) rfl (by first | exact jh_V hu gu | exact jh_V hu (g0.R37 hu _) | exact jh_walk hu) (by rfl) (by first | decide | exact Nat.ble_eq_true_of_le (by omega)) (k_isDead hu gu) (st' := [_]) rfl ?_
      refine je_ifeqb jb_X11_of rfl (t := 105) rfl (pc' := 101) rfl (fun c98 => ?_) (fun c98 => ?_)
      · refine je_ps jb_X11_of 1 (pc' := 106) (ls' := [_, _, _, _]) (st' := [_]) rfl ?_
        rw [show aOf A x y = (aOfv A x.toNat y, A) from by unfold aOf; rw [if_pos c5, if_pos (by omega)]]
        exact je_ret jb_X11_of rfl (by rfl) ⟨_, _, _, by unfold aOfv; rw [if_neg (by omega), if_neg (by omega), if_neg (by omega), if_neg (by omega), if_neg (by omega), if_pos (by omega), c98]; rfl, rfl, I, kG.rfl' m, tG.rfl' T⟩
      · refine je_ps jb_X11_of 2 (pc' := 106) (ls' := [_, _, _, _]) (st' := [_]) rfl ?_
        rw [show aOf A x y = (aOfv A x.toNat y, A) from by unfold aOf; rw [if_pos c5, if_pos (by omega)]]
        exact je_ret jb_X11_of rfl (by rfl) ⟨_, _, _, by unfold aOfv; rw [if_neg (by omega), if_neg (by omega), if_neg (by omega), if_neg (by omega), if_neg (by omega), if_pos (by omega), c98]; rfl, rfl, I, kG.rfl' m, tG.rfl' T⟩
    · rw [c20]
      refine je_sw jb_X11_of rfl (t := 107) (st' := []) rfl ?_
      refine je_ps jb_X11_of 1 (pc' := 108) (ls' := [_, _, _, _]) (st' := [_]) rfl ?_
      refine je_cvP' jb_X11_of rfl (pc' := 111) rfl (by first | exact jh_V hu gu | exact jh_V hu (g0.R37 hu _) | exact jh_walk hu) (by rfl) (by first | decide | exact Nat.ble_eq_true_of_le (by omega)) (k_depth hu gu) (st' := [_]) rfl ?_
      rw [show aOf A x y = (aOfv A x.toNat y, A) from by unfold aOf; rw [if_pos c5, if_pos (by omega)]]
      exact je_ret jb_X11_of rfl (by rfl) ⟨_, _, _, by unfold aOfv; rw [if_neg (by omega), if_neg (by omega), if_neg (by omega), if_neg (by omega), if_neg (by omega), if_neg (by omega), if_pos (by omega)], rfl, I, kG.rfl' m, tG.rfl' T⟩
    · rw [c20]
      refine je_sw jb_X11_of rfl (t := 112) (st' := []) rfl ?_
      refine je_ps jb_X11_of 1 (pc' := 113) (ls' := [_, _, _, _]) (st' := [_]) rfl ?_
      refine je_cvP' jb_X11_of rfl (pc' := 116) rfl (by first | exact jh_V hu gu | exact jh_V hu (g0.R37 hu _) | exact jh_walk hu) (by rfl) (by first | decide | exact Nat.ble_eq_true_of_le (by omega)) (k_order hu gu) (st' := [_]) rfl ?_
      rw [show aOf A x y = (aOfv A x.toNat y, A) from by unfold aOf; rw [if_pos c5, if_pos (by omega)]]
      exact je_ret jb_X11_of rfl (by rfl) ⟨_, _, _, by unfold aOfv; rw [if_neg (by omega), if_neg (by omega), if_neg (by omega), if_neg (by omega), if_neg (by omega), if_neg (by omega), if_neg (by omega)], rfl, I, kG.rfl' m, tG.rfl' T⟩
    · refine je_swO jb_X11_of rfl (t := 117) rfl (by omega) (by omega) c20 ?_
      refine je_ps jb_X11_of 2 (pc' := 120) (ls' := [_, _, _, _]) (st' := [_, _]) rfl ?_
      refine je_cvP' jb_X11_of rfl (pc' := 123) rfl (jh_at (a := 0) rfl) (by rfl) (by first | decide | exact Nat.ble_eq_true_of_le (by omega)) (c_X11_refuseFar (by omega)) (st' := [_]) rfl ?_
      rw [show aOf A x y = aFar A (-2) from by unfold aOf; rw [if_pos c5, if_neg (by omega)]]
      exact je_ret jb_X11_of rfl (by rfl) ⟨_, _, _, rfl, rfl, I.ref (by omega), kG.ref m _, tG.rfl' T⟩
def aLamp (A : aT) (x y : Int) : Int × aT := if (0 ≤ x ∧ x < (aC A : Int)) ∧ fHas (aS A) (aN A) y = true then (fSh (aS A) (aN A) (aW A x.toNat).1 y, A) else aRef A (-1)
theorem cl_lamp {A : aT} (I : iC A m r T) {x y : Int} (hx : -2147483648 ≤ x ∧ x ≤ 2147483647) (hy : -2147483648 ≤ y ∧ y ≤ 2147483647) : jq sc 12 jm_X11_lamp [.ref 0, .int (jI x), .int (jI y)] (jh m r T) (cQ (aLamp A x y) m T) := by
  have c6 := I.c6
  have fs := I.fs
  refine je_in jb_X11_lamp rfl (ls := [_, _, _, _]) rfl ?_
  refine je_ps jb_X11_lamp 1 (pc' := 1) (ls' := [_, _, _, _]) (st' := [_]) rfl ?_
  refine je_get jb_X11_lamp rfl (pc' := 4) rfl (jh_at (a := 0) rfl) (by rfl) (by rfl) ?_
  refine je_ps jb_X11_lamp 1 (pc' := 5) (ls' := [_, _, _, _]) (st' := [_, _]) rfl ?_
  refine je_cvP' jb_X11_lamp rfl (pc' := 8) rfl (jh_at (a := 1) rfl) (by rfl) (by first | decide | exact Nat.ble_eq_true_of_le (by omega)) (k_walkAt I.c I.c6 hx) (st' := [_]) rfl ?_
  refine je_mv (fun c5 => ?_) (fun c5 => ?_)
  · skip
    refine je_ps jb_X11_lamp 2 (pc' := 10) (ls' := [_, _, _, _]) (st' := [_]) rfl ?_
    refine je_ifnullN jb_X11_lamp rfl (t := 27) rfl (pc' := 13) rfl ?_
    refine je_ps jb_X11_lamp 2 (pc' := 29) (ls' := [_, _, _, _]) (st' := [_, _]) rfl ?_
    refine je_cvP' jb_X11_lamp rfl (pc' := 32) rfl (jh_at (a := 0) rfl) (by rfl) (by first | decide | exact Nat.ble_eq_true_of_le (by omega)) (c_X11_refuse (by omega)) (st' := [_]) rfl ?_
    first | (rw [show aLamp A x y = aRef A (-1) from by unfold aLamp; rw [if_neg (fun h => c5 h.1)]]; exact je_ret jb_X11_lamp rfl (by rfl) ⟨_, _, _, rfl, rfl, I.ref (by omega), kG.ref m _, tG.rfl' T⟩) | (rw [show aLamp A x y = aRef A (-1) from by unfold aLamp; rw [if_neg (fun h => by rw [h.2] at c24; cases c24)]]; exact je_ret jb_X11_lamp rfl (by rfl) ⟨_, _, _, rfl, rfl, I.ref (by omega), kG.ref m _, tG.rfl' T⟩)
  · skip
    have hu : x.toNat < 13 := by omega
    have hun : x.toNat < aC A := by omega
    have gu := I.wk hun
    have ou := I.wo hun
    refine je_ps jb_X11_lamp 2 (pc' := 10) (ls' := [_, _, _, _]) (st' := [_]) rfl ?_
    refine je_ifnullR jb_X11_lamp rfl (t := 27) rfl (pc' := 13) rfl ?_
    refine je_ps jb_X11_lamp 1 (pc' := 14) (ls' := [_, _, _, _]) (st' := [_]) rfl ?_
    refine je_get jb_X11_lamp rfl (pc' := 17) rfl (jh_at (a := 0) rfl) (by rfl) (by rfl) ?_
    refine je_get jb_X11_lamp rfl (pc' := 20) rfl (jh_at (a := 1) rfl) (by rfl) (by rfl) ?_
    refine je_ps jb_X11_lamp 1 (pc' := 21) (ls' := [_, _, _, _]) (st' := [_, _]) rfl ?_
    refine je_cvP' jb_X11_lamp rfl (pc' := 24) rfl (jh_at (a := 2) rfl) (by rfl) (by first | decide | exact Nat.ble_eq_true_of_le (by omega)) (c_X5_has (i := 0) (by decide) (I.str (jws_6 (by decide))) hy) (st' := [_]) rfl ?_
    refine je_ifneb jb_X11_lamp rfl (t := 33) rfl (pc' := 27) rfl (fun c24 => ?_) (fun c24 => ?_)
    · refine je_ps jb_X11_lamp 2 (pc' := 35) (ls' := [_, _, _, _]) (st' := [_, _]) rfl ?_
      refine je_cvP' jb_X11_lamp rfl (pc' := 38) rfl (by first | exact jh_V hu gu | exact jh_V hu (g0.R37 hu _) | exact jh_walk hu) (by rfl) (by first | decide | exact Nat.ble_eq_true_of_le (by omega)) (k_shows hu gu hy) (st' := [_]) rfl ?_
      rw [show aLamp A x y = (fSh (aS A) (aN A) (aW A x.toNat).1 y, A) from by unfold aLamp; rw [if_pos ⟨c5, c24⟩]]
      exact je_ret jb_X11_lamp rfl (by rfl) ⟨_, _, _, rfl, rfl, I, kG.rfl' m, tG.rfl' T⟩
    · refine je_ps jb_X11_lamp 2 (pc' := 29) (ls' := [_, _, _, _]) (st' := [_, _]) rfl ?_
      refine je_cvP' jb_X11_lamp rfl (pc' := 32) rfl (jh_at (a := 0) rfl) (by rfl) (by first | decide | exact Nat.ble_eq_true_of_le (by omega)) (c_X11_refuse (by omega)) (st' := [_]) rfl ?_
      first | (rw [show aLamp A x y = aRef A (-1) from by unfold aLamp; rw [if_neg (fun h => c5 h.1)]]; exact je_ret jb_X11_lamp rfl (by rfl) ⟨_, _, _, rfl, rfl, I.ref (by omega), kG.ref m _, tG.rfl' T⟩) | (rw [show aLamp A x y = aRef A (-1) from by unfold aLamp; rw [if_neg (fun h => by rw [h.2] at c24; cases c24)]]; exact je_ret jb_X11_lamp rfl (by rfl) ⟨_, _, _, rfl, rfl, I.ref (by omega), kG.ref m _, tG.rfl' T⟩)
def aDrop (A : aT) : Int × aT := if 0 < aC A then ((aC A : Int) - 1, sC A (aC A - 1)) else aRef A (-3)
theorem cl_drop {A : aT} (I : iC A m r T)  : jq sc 4 jm_X11_drop [.ref 0] (jh m r T) (cQ (aDrop A) m T) := by
  have c6 := I.c6
  have fs := I.fs
  refine je_in jb_X11_drop rfl (ls := [_]) rfl ?_
  refine je_ps jb_X11_drop 1 (pc' := 1) (ls' := [_]) (st' := [_]) rfl ?_
  refine je_get jb_X11_drop rfl (pc' := 4) rfl (jh_at (a := 0) rfl) (by rfl) (by rfl) ?_
  refine je_get jb_X11_drop rfl (pc' := 7) rfl (jh_at (a := 1) rfl) (by rfl) (by rfl) ?_
  rw [I.c]
  refine je_ifgt jb_X11_drop rfl (t := 17) rfl (pc' := 10) rfl (by first | omega | exact (hM _ _).1 | exact (hM _ _).2) (by first | omega | exact (hM _ _).1 | exact (hM _ _).2) (fun c7 => ?_) (fun c7 => ?_)
  · refine je_ps jb_X11_drop 1 (pc' := 18) (ls' := [_]) (st' := [_]) rfl ?_
    refine je_get jb_X11_drop rfl (pc' := 21) rfl (jh_at (a := 0) rfl) (by rfl) (by rfl) ?_
    refine je_ps jb_X11_drop 1 (pc' := 22) (ls' := [_]) (st' := [_, _]) rfl ?_
    refine je_get jb_X11_drop rfl (pc' := 25) rfl (jh_at (a := 1) rfl) (by rfl) (by rfl) ?_
    rw [I.c]
    refine je_ps jb_X11_drop 1 (pc' := 26) (ls' := [_]) (st' := [_, _, _]) rfl ?_
    refine je_isub jb_X11_drop rfl (pc' := 27) rfl ?_
    refine je_putI jb_X11_drop rfl (pc' := 30) rfl (j := 2) (a := 1) rfl (by rfl) (by rfl) (by rfl) (by rfl) ?_
    refine je_ps jb_X11_drop 1 (pc' := 31) (ls' := [_]) (st' := [_]) rfl ?_
    refine je_get jb_X11_drop rfl (pc' := 34) rfl (jh_at (a := 0) rfl) (by rfl) (by rfl) ?_
    refine je_get jb_X11_drop rfl (pc' := 37) rfl (jh_at (a := 1) rfl) (by rfl) (by rfl) ?_
    rw [jU_same, ju_same]
    rw [show aDrop A = ((aC A : Int) - 1, sC A (aC A - 1)) from by unfold aDrop; rw [if_pos (by omega)]]
    exact je_ret jb_X11_drop rfl (by rfl) ⟨_, _, _, rfl, rfl, I.drop (c := aC A - 1) (by omega) (by omega), (kG.rfl' m).u (by decide) _, tG.rfl' T⟩
  · refine je_ps jb_X11_drop 2 (pc' := 13) (ls' := [_]) (st' := [_, _]) rfl ?_
    refine je_cvP' jb_X11_drop rfl (pc' := 16) rfl (jh_at (a := 0) rfl) (by rfl) (by first | decide | exact Nat.ble_eq_true_of_le (by omega)) (c_X11_refuse (by omega)) (st' := [_]) rfl ?_
    rw [show aDrop A = aRef A (-3) from by unfold aDrop; rw [if_neg (by omega)]]
    exact je_ret jb_X11_drop rfl (by rfl) ⟨_, _, _, rfl, rfl, I.ref (by omega), kG.ref m _, tG.rfl' T⟩
def aDi (A : aT) (x y : Int) : Int → Int := fun p => (fAt (aW A y.toNat).1 p - fAt (aW A x.toNat).1 p) % (aK A)
theorem aDi_ok {n k : Int} {L1 L2 : Int → Int} (hk : 0 < k) (h1 : fL n k L1) (h2 : fL n k L2) : fL n k (fun p => (fAt L2 p - fAt L1 p) % k) ∧ fZ (fun p => (fAt L2 p - fAt L1 p) % k) := by
  refine ⟨⟨fun p => ⟨Int.emod_nonneg _ (by omega), Int.emod_lt_of_pos _ hk⟩, fun p hp => ?_⟩, fun p hp => ?_⟩
  · have e1 : fAt L1 p = 0 := by
      unfold fAt
      split
      · exact h1.2 p hp
      · rfl
    have e2 : fAt L2 p = 0 := by
      unfold fAt
      split
      · exact h2.2 p hp
      · rfl
    show (fAt L2 p - fAt L1 p) % k = 0
    rw [e1, e2]
    rfl
  · show (fAt L2 p - fAt L1 p) % k = 0
    unfold fAt
    rw [if_neg hp, if_neg hp]
    rfl
def aDist (A : aT) (x y : Int) : Int × aT := if (0 ≤ x ∧ x < (aC A : Int)) ∧ (0 ≤ y ∧ y < (aC A : Int)) then (fTn (aK A) (aDi A x y) + fTour (aS A) (aN A) (aDi A x y) (aW A y.toNat).2 (aW A x.toNat).2, A) else aRef A (-1)
theorem cl_distance {A : aT} (I : iC A m r T) {x y : Int} (hx : -2147483648 ≤ x ∧ x ≤ 2147483647) (hy : -2147483648 ≤ y ∧ y ≤ 2147483647) : jq sc 12 jm_X11_distance [.ref 0, .int (jI x), .int (jI y)] (jh m r T) (cQ (aDist A x y) m T) := by
  have c6 := I.c6
  have fs := I.fs
  refine je_in jb_X11_distance rfl (ls := [_, _, _, _, _, _]) rfl ?_
  refine je_ps jb_X11_distance 1 (pc' := 1) (ls' := [_, _, _, _, _, _]) (st' := [_]) rfl ?_
  refine je_get jb_X11_distance rfl (pc' := 4) rfl (jh_at (a := 0) rfl) (by rfl) (by rfl) ?_
  refine je_ps jb_X11_distance 1 (pc' := 5) (ls' := [_, _, _, _, _, _]) (st' := [_, _]) rfl ?_
  refine je_cvP' jb_X11_distance rfl (pc' := 8) rfl (jh_at (a := 1) rfl) (by rfl) (by first | decide | exact Nat.ble_eq_true_of_le (by omega)) (k_walkAt I.c I.c6 hx) (st' := [_]) rfl ?_
  refine je_mv (fun c5 => ?_) (fun c5 => ?_)
  · skip
    refine je_ps jb_X11_distance 2 (pc' := 10) (ls' := [_, _, _, _, _, _]) (st' := [_]) rfl ?_
    refine je_get jb_X11_distance rfl (pc' := 13) rfl (jh_at (a := 0) rfl) (by rfl) (by rfl) ?_
    refine je_ps jb_X11_distance 1 (pc' := 14) (ls' := [_, _, _, _, _, _]) (st' := [_, _]) rfl ?_
    refine je_cvP' jb_X11_distance rfl (pc' := 17) rfl (jh_at (a := 1) rfl) (by rfl) (by first | decide | exact Nat.ble_eq_true_of_le (by omega)) (k_walkAt I.c I.c6 hy) (st' := [_]) rfl ?_
    refine je_mv (fun c14 => ?_) (fun c14 => ?_)
    · skip
      refine je_ps jb_X11_distance 2 (pc' := 20) (ls' := [_, _, _, _, _, _]) (st' := [_]) rfl ?_
      refine je_ifnullN jb_X11_distance rfl (t := 28) rfl (pc' := 23) rfl ?_
      refine je_ps jb_X11_distance 2 (pc' := 30) (ls' := [_, _, _, _, _, _]) (st' := [_, _]) rfl ?_
      refine je_cvP' jb_X11_distance rfl (pc' := 33) rfl (jh_at (a := 0) rfl) (by rfl) (by first | decide | exact Nat.ble_eq_true_of_le (by omega)) (c_X11_refuse (by omega)) (st' := [_]) rfl ?_
      rw [show aDist A x y = aRef A (-1) from by unfold aDist; rw [if_neg (by omega)]]
      exact je_ret jb_X11_distance rfl (by rfl) ⟨_, _, _, rfl, rfl, I.ref (by omega), kG.ref m _, tG.rfl' T⟩
    · skip
      have hv : y.toNat < 13 := by omega
      have hvn : y.toNat < aC A := by omega
      have gv := I.wk hvn
      have ov := I.wo hvn
      refine je_ps jb_X11_distance 2 (pc' := 20) (ls' := [_, _, _, _, _, _]) (st' := [_]) rfl ?_
      refine je_ifnullN jb_X11_distance rfl (t := 28) rfl (pc' := 23) rfl ?_
      refine je_ps jb_X11_distance 2 (pc' := 30) (ls' := [_, _, _, _, _, _]) (st' := [_, _]) rfl ?_
      refine je_cvP' jb_X11_distance rfl (pc' := 33) rfl (jh_at (a := 0) rfl) (by rfl) (by first | decide | exact Nat.ble_eq_true_of_le (by omega)) (c_X11_refuse (by omega)) (st' := [_]) rfl ?_
      rw [show aDist A x y = aRef A (-1) from by unfold aDist; rw [if_neg (by omega)]]
      exact je_ret jb_X11_distance rfl (by rfl) ⟨_, _, _, rfl, rfl, I.ref (by omega), kG.ref m _, tG.rfl' T⟩
  · skip
    have hu : x.toNat < 13 := by omega
    have hun : x.toNat < aC A := by omega
    have gu := I.wk hun
    have ou := I.wo hun
    refine je_ps jb_X11_distance 2 (pc' := 10) (ls' := [_, _, _, _, _, _]) (st' := [_]) rfl ?_
    refine je_get jb_X11_distance rfl (pc' := 13) rfl (jh_at (a := 0) rfl) (by rfl) (by rfl) ?_
    refine je_ps jb_X11_distance 1 (pc' := 14) (ls' := [_, _, _, _, _, _]) (st' := [_, _]) rfl ?_
    refine je_cvP' jb_X11_distance rfl (pc' := 17) rfl (jh_at (a := 1) rfl) (by rfl) (by first | decide | exact Nat.ble_eq_true_of_le (by omega)) (k_walkAt I.c I.c6 hy) (st' := [_]) rfl ?_
    refine je_mv (fun c14 => ?_) (fun c14 => ?_)
    · skip
      refine je_ps jb_X11_distance 2 (pc' := 20) (ls' := [_, _, _, _, _, _]) (st' := [_]) rfl ?_
      refine je_ifnullR jb_X11_distance rfl (t := 28) rfl (pc' := 23) rfl ?_
      refine je_ps jb_X11_distance 1 (pc' := 25) (ls' := [_, _, _, _, _, _]) (st' := [_]) rfl ?_
      refine je_ifnonnullN jb_X11_distance rfl (t := 34) rfl (pc' := 28) rfl ?_
      refine je_ps jb_X11_distance 2 (pc' := 30) (ls' := [_, _, _, _, _, _]) (st' := [_, _]) rfl ?_
      refine je_cvP' jb_X11_distance rfl (pc' := 33) rfl (jh_at (a := 0) rfl) (by rfl) (by first | decide | exact Nat.ble_eq_true_of_le (by omega)) (c_X11_refuse (by omega)) (st' := [_]) rfl ?_
      rw [show aDist A x y = aRef A (-1) from by unfold aDist; rw [if_neg (by omega)]]
      exact je_ret jb_X11_distance rfl (by rfl) ⟨_, _, _, rfl, rfl, I.ref (by omega), kG.ref m _, tG.rfl' T⟩
    · skip
      have hv : y.toNat < 13 := by omega
      have hvn : y.toNat < aC A := by omega
      have gv := I.wk hvn
      have ov := I.wo hvn
      refine je_ps jb_X11_distance 2 (pc' := 20) (ls' := [_, _, _, _, _, _]) (st' := [_]) rfl ?_
      refine je_ifnullR jb_X11_distance rfl (t := 28) rfl (pc' := 23) rfl ?_
      refine je_ps jb_X11_distance 1 (pc' := 25) (ls' := [_, _, _, _, _, _]) (st' := [_]) rfl ?_
      refine je_ifnonnullR jb_X11_distance rfl (t := 34) rfl (pc' := 28) rfl ?_
      have h12 : (12 : Nat) < 13 := by decide
      have hk : 2 ≤ aK A ∧ aK A ≤ 5 := fs.2
      have od := aDi_ok (by omega) ou.1 ov.1
      have gd := jWk.w (m := m) (i := 12) (I.str (i := 12) (by decide)) h12 od.1 ov.2.1
      have bt := fTn_i od.1 (by omega)
      have be := fC_i fs ou.2.1
      have be2 := fC_i fs ov.2.1
      refine je_ps jb_X11_distance 1 (pc' := 35) (ls' := [_, _, _, _, _, _]) (st' := [_]) rfl ?_
      refine je_get jb_X11_distance rfl (pc' := 38) rfl (jh_at (a := 0) rfl) (by rfl) (by rfl) ?_
      refine je_get jb_X11_distance rfl (pc' := 41) rfl (jh_at (a := 1) rfl) (by rfl) (by rfl) ?_
      refine je_ps jb_X11_distance 4 (pc' := 48) (ls' := [_, _, _, _, _, _]) (st' := [_, _, _]) rfl ?_
      refine je_cvP' jb_X11_distance rfl (pc' := 51) rfl (jh_at (a := 5) rfl) (by rfl) (by first | decide | exact Nat.ble_eq_true_of_le (by omega)) (k_becomeDifference (i := 12) h12 hu hv (by omega) (by omega) (I.z h12) (I.str (i := 12) (by decide)) gu gv) (st' := []) rfl ?_
      have gu := jWk.o (m := m) gu hu h12 (by omega) (aDi A x y) (aW A y.toNat).2
      refine je_ps jb_X11_distance 1 (pc' := 53) (ls' := [_, _, _, _, _, _]) (st' := [_]) rfl ?_
      refine je_cvP' jb_X11_distance rfl (pc' := 56) rfl (jh_at (a := 5) rfl) (by rfl) (by first | decide | exact Nat.ble_eq_true_of_le (by omega)) (k_turns h12 gd) (st' := [_]) rfl ?_
      refine je_ps jb_X11_distance 2 (pc' := 59) (ls' := [_, _, _, _, _, _]) (st' := [_, _, _]) rfl ?_
      refine je_get jb_X11_distance rfl (pc' := 62) rfl (by first | exact jh_V hu gu | exact jh_V hu (g0.R37 hu _) | exact jh_walk hu) (by rfl) (by rfl) ?_
      refine je_cvP' jb_X11_distance rfl (pc' := 65) rfl (jh_at (a := 5) rfl) (by rfl) (by first | decide | exact Nat.ble_eq_true_of_le (by omega)) (k_tourFrom h12 gd (by omega)) (st' := [_, _]) rfl ?_
      refine je_iadd jb_X11_distance rfl (pc' := 66) rfl ?_
      rw [show aDist A x y = (fTn (aK A) (aDi A x y) + fTour (aS A) (aN A) (aDi A x y) (aW A y.toNat).2 (aW A x.toNat).2, A) from by unfold aDist; rw [if_pos ⟨c5, c14⟩]]
      exact je_ret jb_X11_distance rfl (by rfl) ⟨_, _, _, rfl, rfl, I.junk (Or.inr rfl) od.2, (kG.rfl' m).w h12 _ _, tG.rfl' T⟩
def aLike (A : aT) (x y : Int) : Int × aT := if (0 ≤ x ∧ x < (aC A : Int)) ∧ (0 ≤ y ∧ y < (aC A : Int)) then (jb (fLike (aS A) (aN A) (aK A) (aW A x.toNat).1 (aW A x.toNat).2 (aW A y.toNat).1 (aW A y.toNat).2), A) else aRef A (-1)
theorem cl_like {A : aT} (I : iC A m r T) {x y : Int} (hx : -2147483648 ≤ x ∧ x ≤ 2147483647) (hy : -2147483648 ≤ y ∧ y ≤ 2147483647) : jq sc 12 jm_X11_like [.ref 0, .int (jI x), .int (jI y)] (jh m r T) (cQ (aLike A x y) m T) := by
  have c6 := I.c6
  have fs := I.fs
  refine je_in jb_X11_like rfl (ls := [_, _, _, _, _]) rfl ?_
  refine je_ps jb_X11_like 1 (pc' := 1) (ls' := [_, _, _, _, _]) (st' := [_]) rfl ?_
  refine je_get jb_X11_like rfl (pc' := 4) rfl (jh_at (a := 0) rfl) (by rfl) (by rfl) ?_
  refine je_ps jb_X11_like 1 (pc' := 5) (ls' := [_, _, _, _, _]) (st' := [_, _]) rfl ?_
  refine je_cvP' jb_X11_like rfl (pc' := 8) rfl (jh_at (a := 1) rfl) (by rfl) (by first | decide | exact Nat.ble_eq_true_of_le (by omega)) (k_walkAt I.c I.c6 hx) (st' := [_]) rfl ?_
  refine je_mv (fun c5 => ?_) (fun c5 => ?_)
  · skip
    refine je_ps jb_X11_like 2 (pc' := 10) (ls' := [_, _, _, _, _]) (st' := [_]) rfl ?_
    refine je_get jb_X11_like rfl (pc' := 13) rfl (jh_at (a := 0) rfl) (by rfl) (by rfl) ?_
    refine je_ps jb_X11_like 1 (pc' := 14) (ls' := [_, _, _, _, _]) (st' := [_, _]) rfl ?_
    refine je_cvP' jb_X11_like rfl (pc' := 17) rfl (jh_at (a := 1) rfl) (by rfl) (by first | decide | exact Nat.ble_eq_true_of_le (by omega)) (k_walkAt I.c I.c6 hy) (st' := [_]) rfl ?_
    refine je_mv (fun c14 => ?_) (fun c14 => ?_)
    · skip
      refine je_ps jb_X11_like 2 (pc' := 20) (ls' := [_, _, _, _, _]) (st' := [_]) rfl ?_
      refine je_ifnullN jb_X11_like rfl (t := 28) rfl (pc' := 23) rfl ?_
      refine je_ps jb_X11_like 2 (pc' := 30) (ls' := [_, _, _, _, _]) (st' := [_, _]) rfl ?_
      refine je_cvP' jb_X11_like rfl (pc' := 33) rfl (jh_at (a := 0) rfl) (by rfl) (by first | decide | exact Nat.ble_eq_true_of_le (by omega)) (c_X11_refuse (by omega)) (st' := [_]) rfl ?_
      rw [show aLike A x y = aRef A (-1) from by unfold aLike; rw [if_neg (by omega)]]
      exact je_ret jb_X11_like rfl (by rfl) ⟨_, _, _, rfl, rfl, I.ref (by omega), kG.ref m _, tG.rfl' T⟩
    · skip
      have hv : y.toNat < 13 := by omega
      have hvn : y.toNat < aC A := by omega
      have gv := I.wk hvn
      have ov := I.wo hvn
      refine je_ps jb_X11_like 2 (pc' := 20) (ls' := [_, _, _, _, _]) (st' := [_]) rfl ?_
      refine je_ifnullN jb_X11_like rfl (t := 28) rfl (pc' := 23) rfl ?_
      refine je_ps jb_X11_like 2 (pc' := 30) (ls' := [_, _, _, _, _]) (st' := [_, _]) rfl ?_
      refine je_cvP' jb_X11_like rfl (pc' := 33) rfl (jh_at (a := 0) rfl) (by rfl) (by first | decide | exact Nat.ble_eq_true_of_le (by omega)) (c_X11_refuse (by omega)) (st' := [_]) rfl ?_
      rw [show aLike A x y = aRef A (-1) from by unfold aLike; rw [if_neg (by omega)]]
      exact je_ret jb_X11_like rfl (by rfl) ⟨_, _, _, rfl, rfl, I.ref (by omega), kG.ref m _, tG.rfl' T⟩
  · skip
    have hu : x.toNat < 13 := by omega
    have hun : x.toNat < aC A := by omega
    have gu := I.wk hun
    have ou := I.wo hun
    refine je_ps jb_X11_like 2 (pc' := 10) (ls' := [_, _, _, _, _]) (st' := [_]) rfl ?_
    refine je_get jb_X11_like rfl (pc' := 13) rfl (jh_at (a := 0) rfl) (by rfl) (by rfl) ?_
    refine je_ps jb_X11_like 1 (pc' := 14) (ls' := [_, _, _, _, _]) (st' := [_, _]) rfl ?_
    refine je_cvP' jb_X11_like rfl (pc' := 17) rfl (jh_at (a := 1) rfl) (by rfl) (by first | decide | exact Nat.ble_eq_true_of_le (by omega)) (k_walkAt I.c I.c6 hy) (st' := [_]) rfl ?_
    refine je_mv (fun c14 => ?_) (fun c14 => ?_)
    · skip
      refine je_ps jb_X11_like 2 (pc' := 20) (ls' := [_, _, _, _, _]) (st' := [_]) rfl ?_
      refine je_ifnullR jb_X11_like rfl (t := 28) rfl (pc' := 23) rfl ?_
      refine je_ps jb_X11_like 1 (pc' := 25) (ls' := [_, _, _, _, _]) (st' := [_]) rfl ?_
      refine je_ifnonnullN jb_X11_like rfl (t := 34) rfl (pc' := 28) rfl ?_
      refine je_ps jb_X11_like 2 (pc' := 30) (ls' := [_, _, _, _, _]) (st' := [_, _]) rfl ?_
      refine je_cvP' jb_X11_like rfl (pc' := 33) rfl (jh_at (a := 0) rfl) (by rfl) (by first | decide | exact Nat.ble_eq_true_of_le (by omega)) (c_X11_refuse (by omega)) (st' := [_]) rfl ?_
      rw [show aLike A x y = aRef A (-1) from by unfold aLike; rw [if_neg (by omega)]]
      exact je_ret jb_X11_like rfl (by rfl) ⟨_, _, _, rfl, rfl, I.ref (by omega), kG.ref m _, tG.rfl' T⟩
    · skip
      have hv : y.toNat < 13 := by omega
      have hvn : y.toNat < aC A := by omega
      have gv := I.wk hvn
      have ov := I.wo hvn
      refine je_ps jb_X11_like 2 (pc' := 20) (ls' := [_, _, _, _, _]) (st' := [_]) rfl ?_
      refine je_ifnullR jb_X11_like rfl (t := 28) rfl (pc' := 23) rfl ?_
      refine je_ps jb_X11_like 1 (pc' := 25) (ls' := [_, _, _, _, _]) (st' := [_]) rfl ?_
      refine je_ifnonnullR jb_X11_like rfl (t := 34) rfl (pc' := 28) rfl ?_
      refine je_ps jb_X11_like 2 (pc' := 37) (ls' := [_, _, _, _, _]) (st' := [_, _]) rfl ?_
      refine je_cvP' jb_X11_like rfl (pc' := 40) rfl (by first | exact jh_V hu gu | exact jh_V hu (g0.R37 hu _) | exact jh_walk hu) (by rfl) (by first | decide | exact Nat.ble_eq_true_of_le (by omega)) (k_isLike hu hv gu gv) (st' := [_]) rfl ?_
      refine je_ifeqb jb_X11_like rfl (t := 47) rfl (pc' := 43) rfl (fun c40 => ?_) (fun c40 => ?_)
      · refine je_ps jb_X11_like 1 (pc' := 48) (ls' := [_, _, _, _, _]) (st' := [_]) rfl ?_
        rw [show aLike A x y = (jb (fLike (aS A) (aN A) (aK A) (aW A x.toNat).1 (aW A x.toNat).2 (aW A y.toNat).1 (aW A y.toNat).2), A) from by unfold aLike; rw [if_pos ⟨c5, c14⟩]]
        rw [c40]
        exact je_ret jb_X11_like rfl (by rfl) ⟨_, _, _, rfl, rfl, I, kG.rfl' m, tG.rfl' T⟩
      · refine je_ps jb_X11_like 2 (pc' := 48) (ls' := [_, _, _, _, _]) (st' := [_]) rfl ?_
        rw [show aLike A x y = (jb (fLike (aS A) (aN A) (aK A) (aW A x.toNat).1 (aW A x.toNat).2 (aW A y.toNat).1 (aW A y.toNat).2), A) from by unfold aLike; rw [if_pos ⟨c5, c14⟩]]
        rw [c40]
        exact je_ret jb_X11_like rfl (by rfl) ⟨_, _, _, rfl, rfl, I, kG.rfl' m, tG.rfl' T⟩
def aSums (A : aT) (x y : Int) : Int × aT := if (0 ≤ x ∧ x < (aC A : Int)) then (if y < -1 then aRef A (-4) else if y = -1 then (fMany (aS A) (aN A) (aW A x.toNat).2, A) else if y < fMany (aS A) (aN A) (aW A x.toNat).2 then (fSm (aS A) (aK A) (aW A x.toNat).1 y (fMany (aS A) (aN A) (aW A x.toNat).2), A) else (-9, A)) else aRef A (-1)
theorem cl_sums {A : aT} (I : iC A m r T) {x y : Int} (hx : -2147483648 ≤ x ∧ x ≤ 2147483647) (hy : -2147483648 ≤ y ∧ y ≤ 2147483647) : jq sc 12 jm_X11_sums [.ref 0, .int (jI x), .int (jI y)] (jh m r T) (cQ (aSums A x y) m T) := by
  have c6 := I.c6
  have fs := I.fs
  refine je_in jb_X11_sums rfl (ls := [_, _, _, _, _]) rfl ?_
  refine je_ps jb_X11_sums 1 (pc' := 1) (ls' := [_, _, _, _, _]) (st' := [_]) rfl ?_
  refine je_get jb_X11_sums rfl (pc' := 4) rfl (jh_at (a := 0) rfl) (by rfl) (by rfl) ?_
  refine je_ps jb_X11_sums 1 (pc' := 5) (ls' := [_, _, _, _, _]) (st' := [_, _]) rfl ?_
  refine je_cvP' jb_X11_sums rfl (pc' := 8) rfl (jh_at (a := 1) rfl) (by rfl) (by first | decide | exact Nat.ble_eq_true_of_le (by omega)) (k_walkAt I.c I.c6 hx) (st' := [_]) rfl ?_
  refine je_mv (fun c5 => ?_) (fun c5 => ?_)
  · skip
    refine je_ps jb_X11_sums 2 (pc' := 10) (ls' := [_, _, _, _, _]) (st' := [_]) rfl ?_
    refine je_ifnonnullN jb_X11_sums rfl (t := 19) rfl (pc' := 13) rfl ?_
    refine je_ps jb_X11_sums 2 (pc' := 15) (ls' := [_, _, _, _, _]) (st' := [_, _]) rfl ?_
    refine je_cvP' jb_X11_sums rfl (pc' := 18) rfl (jh_at (a := 0) rfl) (by rfl) (by first | decide | exact Nat.ble_eq_true_of_le (by omega)) (c_X11_refuse (by omega)) (st' := [_]) rfl ?_
    rw [show aSums A x y = aRef A (-1) from by unfold aSums; rw [if_neg c5]]
    exact je_ret jb_X11_sums rfl (by rfl) ⟨_, _, _, rfl, rfl, I.ref (by omega), kG.ref m _, tG.rfl' T⟩
  · skip
    have hu : x.toNat < 13 := by omega
    have hun : x.toNat < aC A := by omega
    have gu := I.wk hun
    have ou := I.wo hun
    have gm := fMany_i fs ou.2.1
    refine je_ps jb_X11_sums 2 (pc' := 10) (ls' := [_, _, _, _, _]) (st' := [_]) rfl ?_
    refine je_ifnonnullR jb_X11_sums rfl (t := 19) rfl (pc' := 13) rfl ?_
    refine je_ps jb_X11_sums 2 (pc' := 21) (ls' := [_, _, _, _, _]) (st' := [_, _]) rfl ?_
    refine je_icmpge jb_X11_sums rfl (t := 31) rfl (pc' := 24) rfl (by first | omega | exact (hM _ _).1 | exact (hM _ _).2) (by first | omega | exact (hM _ _).1 | exact (hM _ _).2) (by first | omega | exact (hM _ _).1 | exact (hM _ _).2) (by first | omega | exact (hM _ _).1 | exact (hM _ _).2) (fun c21 => ?_) (fun c21 => ?_)
    · refine je_ps jb_X11_sums 1 (pc' := 32) (ls' := [_, _, _, _, _]) (st' := [_]) rfl ?_
      refine je_cvP' jb_X11_sums rfl (pc' := 35) rfl (by first | exact jh_V hu gu | exact jh_V hu (g0.R37 hu _) | exact jh_walk hu) (by rfl) (by first | decide | exact Nat.ble_eq_true_of_le (by omega)) (k_sumsCount hu gu) (st' := [_]) rfl ?_
      refine je_ps jb_X11_sums 3 (pc' := 39) (ls' := [_, _, _, _, _]) (st' := [_, _]) rfl ?_
      refine je_icmpne jb_X11_sums rfl (t := 45) rfl (pc' := 42) rfl (by first | omega | exact (hM _ _).1 | exact (hM _ _).2) (by first | omega | exact (hM _ _).1 | exact (hM _ _).2) (by first | omega | exact (hM _ _).1 | exact (hM _ _).2) (by first | omega | exact (hM _ _).1 | exact (hM _ _).2) (fun c39 => ?_) (fun c39 => ?_)
      · refine je_ps jb_X11_sums 2 (pc' := 48) (ls' := [_, _, _, _, _]) (st' := [_, _]) rfl ?_
        refine je_icmpge jb_X11_sums rfl (t := 61) rfl (pc' := 51) rfl (by first | omega | exact (hM _ _).1 | exact (hM _ _).2) (by first | omega | exact (hM _ _).1 | exact (hM _ _).2) (by first | omega | exact (hM _ _).1 | exact (hM _ _).2) (by first | omega | exact (hM _ _).1 | exact (hM _ _).2) (fun c48 => ?_) (fun c48 => ?_)
        · refine je_ps jb_X11_sums 1 (pc' := 63) (ls' := [_, _, _, _, _]) (st' := [_]) rfl ?_
          first | (rw [show aSums A x y = (fSm (aS A) (aK A) (aW A x.toNat).1 y (fMany (aS A) (aN A) (aW A x.toNat).2), A) from by unfold aSums; rw [if_pos c5, if_neg (by omega), if_neg (by omega), if_pos (by omega)]]; exact je_ret jb_X11_sums rfl (by rfl) ⟨_, _, _, rfl, rfl, I, kG.rfl' m, tG.rfl' T⟩) | (rw [show aSums A x y = (-9, A) from by unfold aSums; rw [if_pos c5, if_neg (by omega), if_neg (by omega), if_neg (by omega)]]; exact je_ret jb_X11_sums rfl (by rfl) ⟨_, _, _, rfl, rfl, I, kG.rfl' m, tG.rfl' T⟩)
        · refine je_ps jb_X11_sums 3 (pc' := 55) (ls' := [_, _, _, _, _]) (st' := [_, _, _]) rfl ?_
          refine je_cvP' jb_X11_sums rfl (pc' := 58) rfl (by first | exact jh_V hu gu | exact jh_V hu (g0.R37 hu _) | exact jh_walk hu) (by rfl) (by first | decide | exact Nat.ble_eq_true_of_le (by omega)) (k_sumAt hu gu hy (by omega)) (st' := [_]) rfl ?_
          refine je_ps jb_X11_sums 1 (pc' := 63) (ls' := [_, _, _, _, _]) (st' := [_]) rfl ?_
          first | (rw [show aSums A x y = (fSm (aS A) (aK A) (aW A x.toNat).1 y (fMany (aS A) (aN A) (aW A x.toNat).2), A) from by unfold aSums; rw [if_pos c5, if_neg (by omega), if_neg (by omega), if_pos (by omega)]]; exact je_ret jb_X11_sums rfl (by rfl) ⟨_, _, _, rfl, rfl, I, kG.rfl' m, tG.rfl' T⟩) | (rw [show aSums A x y = (-9, A) from by unfold aSums; rw [if_pos c5, if_neg (by omega), if_neg (by omega), if_neg (by omega)]]; exact je_ret jb_X11_sums rfl (by rfl) ⟨_, _, _, rfl, rfl, I, kG.rfl' m, tG.rfl' T⟩)
      · refine je_ps jb_X11_sums 1 (pc' := 44) (ls' := [_, _, _, _, _]) (st' := [_]) rfl ?_
        rw [show aSums A x y = (fMany (aS A) (aN A) (aW A x.toNat).2, A) from by unfold aSums; rw [if_pos c5, if_neg (by omega), if_pos (by omega)]]
        exact je_ret jb_X11_sums rfl (by rfl) ⟨_, _, _, rfl, rfl, I, kG.rfl' m, tG.rfl' T⟩
    · refine je_ps jb_X11_sums 2 (pc' := 27) (ls' := [_, _, _, _, _]) (st' := [_, _]) rfl ?_
      refine je_cvP' jb_X11_sums rfl (pc' := 30) rfl (jh_at (a := 0) rfl) (by rfl) (by first | decide | exact Nat.ble_eq_true_of_le (by omega)) (c_X11_refuse (by omega)) (st' := [_]) rfl ?_
      rw [show aSums A x y = aRef A (-4) from by unfold aSums; rw [if_pos c5, if_pos (by omega)]]
      exact je_ret jb_X11_sums rfl (by rfl) ⟨_, _, _, rfl, rfl, I.ref (by omega), kG.ref m _, tG.rfl' T⟩
end C55
