/-! CALLS of the class: inverses, powers, conjugates -/
section C54
variable {sc : Nat × (Nat → Int32)} {m : Nat → Int → Int} {r : Nat → Nat → Value} {T : jx_H} {σ : jx_H}
def aInverse (A : aT) (x : Int) : Int × aT :=
  if (0 ≤ x ∧ x < (aC A : Int)) then (if aC A < 6 then (if fFit (aS A) (aN A) (aW A x.toNat).1 (-(aW A x.toNat).2) = true then ((aC A : Int), sAdd A (aInv (aS A) (aN A) (aK A) (aW A x.toNat))) else aRef A (-6)) else aRef A (-6)) else aRef A (-1)
theorem cl_inverse {A : aT} (I : iC A m r T) {x : Int} (hx : -2147483648 ≤ x ∧ x ≤ 2147483647) : jq sc 12 jm_X11_inverse [.ref 0, .int (jI x)] (jh m r T) (cQ (aInverse A x) m T) := by
  have c6 := I.c6
  have fs := I.fs
  refine je_in jb_X11_inverse rfl (ls := [_, _, _, _]) rfl ?_
  refine je_ps jb_X11_inverse 1 (pc' := 1) (ls' := [_, _, _, _]) (st' := [_]) rfl ?_
  refine je_get jb_X11_inverse rfl (pc' := 4) rfl (jh_at (a := 0) rfl) (by rfl) (by rfl) ?_
  refine je_ps jb_X11_inverse 1 (pc' := 5) (ls' := [_, _, _, _]) (st' := [_, _]) rfl ?_
  refine je_cvP' jb_X11_inverse rfl (pc' := 8) rfl (jh_at (a := 1) rfl) (by rfl) (by first | decide | exact Nat.ble_eq_true_of_le (by omega)) (k_walkAt I.c I.c6 hx) (st' := [_]) rfl ?_
  refine je_mv (fun c5 => ?_) (fun c5 => ?_)
  · skip
    refine je_ps jb_X11_inverse 2 (pc' := 10) (ls' := [_, _, _, _]) (st' := [_]) rfl ?_
    refine je_ifnonnullN jb_X11_inverse rfl (t := 19) rfl (pc' := 13) rfl ?_
    refine je_ps jb_X11_inverse 2 (pc' := 15) (ls' := [_, _, _, _]) (st' := [_, _]) rfl ?_
    refine je_cvP' jb_X11_inverse rfl (pc' := 18) rfl (jh_at (a := 0) rfl) (by rfl) (by first | decide | exact Nat.ble_eq_true_of_le (by omega)) (c_X11_refuse (by omega)) (st' := [_]) rfl ?_
    rw [show aInverse A x = aRef A (-1) from by unfold aInverse; rw [if_neg c5]]
    exact je_ret jb_X11_inverse rfl (by rfl) ⟨_, _, _, rfl, rfl, I.ref (by omega), kG.ref m _, tG.rfl' T⟩
  · skip
    have hu : x.toNat < 13 := by omega
    have hun : x.toNat < aC A := by omega
    have gu := I.wk hun
    have ou := I.wo hun
    refine je_ps jb_X11_inverse 2 (pc' := 10) (ls' := [_, _, _, _]) (st' := [_]) rfl ?_
    refine je_ifnonnullR jb_X11_inverse rfl (t := 19) rfl (pc' := 13) rfl ?_
    refine je_ps jb_X11_inverse 1 (pc' := 20) (ls' := [_, _, _, _]) (st' := [_]) rfl ?_
    refine je_get jb_X11_inverse rfl (pc' := 23) rfl (jh_at (a := 0) rfl) (by rfl) (by rfl) ?_
    refine je_cvP' jb_X11_inverse rfl (pc' := 26) rfl (jh_at (a := 1) rfl) (by rfl) (by first | decide | exact Nat.ble_eq_true_of_le (by omega)) (k_freeWalk I.c I.c6) (st' := [_]) rfl ?_
    refine je_mv (fun c23 => ?_) (fun c23 => ?_)
    · skip
      refine je_ps jb_X11_inverse 2 (pc' := 28) (ls' := [_, _, _, _]) (st' := [_]) rfl ?_
      refine je_ifnullN jb_X11_inverse rfl (t := 39) rfl (pc' := 31) rfl ?_
      first | rw [if_neg (by rw [c36]; decide)] | skip
      refine je_ps jb_X11_inverse 2 (pc' := 42) (ls' := [_, _, _, _]) (st' := [_, _]) rfl ?_
      refine je_cvP' jb_X11_inverse rfl (pc' := 45) rfl (jh_at (a := 0) rfl) (by rfl) (by first | decide | exact Nat.ble_eq_true_of_le (by omega)) (c_X11_refuse (by omega)) (st' := [_]) rfl ?_
      first | (rw [show aInverse A x = aRef A (-6) from by unfold aInverse; rw [if_pos c5, if_neg c23]]; exact je_ret jb_X11_inverse rfl (by rfl) ⟨_, _, _, rfl, rfl, I.ref (by omega), kG.ref m _, tG.rfl' T⟩) | (rw [show aInverse A x = aRef A (-6) from by unfold aInverse; rw [if_pos c5, if_pos c23, if_neg (by rw [c36]; decide)]]; exact je_ret jb_X11_inverse rfl (by rfl) ⟨_, _, _, rfl, rfl, I.ref (by omega), kG.ref m _, tG.rfl' T⟩)
    · skip
      have hc : aC A < 13 := by omega
      have gs := I.str (i := aC A) (jws_6 (by omega))
      refine je_ps jb_X11_inverse 2 (pc' := 28) (ls' := [_, _, _, _]) (st' := [_]) rfl ?_
      refine je_ifnullR jb_X11_inverse rfl (t := 39) rfl (pc' := 31) rfl ?_
      refine je_ps jb_X11_inverse 2 (pc' := 33) (ls' := [_, _, _, _]) (st' := [_, _]) rfl ?_
      refine je_cvP' jb_X11_inverse rfl (pc' := 36) rfl (jh_walk hc) (by rfl) (by first | decide | exact Nat.ble_eq_true_of_le (by omega)) (k_becomeInverseOf hc hu (by omega) (I.z hc) gs gu) (st' := [_]) rfl ?_
      refine je_ifneb jb_X11_inverse rfl (t := 46) rfl (pc' := 39) rfl (fun c36 => ?_) (fun c36 => ?_)
      · rw [if_pos c36]
        refine je_ps jb_X11_inverse 1 (pc' := 47) (ls' := [_, _, _, _]) (st' := [_]) rfl ?_
        refine je_get jb_X11_inverse rfl (pc' := 50) rfl (jh_at (a := 0) rfl) (by rfl) (by rfl) ?_
        refine je_cvP' jb_X11_inverse rfl (pc' := 53) rfl (jh_at (a := 1) rfl) (by rfl) (by first | decide | exact Nat.ble_eq_true_of_le (by omega)) (keepFreeWalk_n (c := (aC A : Int)) (by rw [jW_1 hc]; exact I.c)) (st' := [_]) rfl ?_
        rw [show aInverse A x = ((aC A : Int), sAdd A (aInv (aS A) (aN A) (aK A) (aW A x.toNat))) from by unfold aInverse; rw [if_pos c5, if_pos c23, if_pos c36]]
        rw [jW_1 hc]
        exact je_ret jb_X11_inverse rfl (by rfl) ⟨_, _, _, rfl, rfl, I.add c23 (ou.inv fs), ((kG.rfl' m).w hc _ _).u (by decide) _, tG.rfl' T⟩
      · first | rw [if_neg (by rw [c36]; decide)] | skip
        refine je_ps jb_X11_inverse 2 (pc' := 42) (ls' := [_, _, _, _]) (st' := [_, _]) rfl ?_
        refine je_cvP' jb_X11_inverse rfl (pc' := 45) rfl (jh_at (a := 0) rfl) (by rfl) (by first | decide | exact Nat.ble_eq_true_of_le (by omega)) (c_X11_refuse (by omega)) (st' := [_]) rfl ?_
        first | (rw [show aInverse A x = aRef A (-6) from by unfold aInverse; rw [if_pos c5, if_neg c23]]; exact je_ret jb_X11_inverse rfl (by rfl) ⟨_, _, _, rfl, rfl, I.ref (by omega), kG.ref m _, tG.rfl' T⟩) | (rw [show aInverse A x = aRef A (-6) from by unfold aInverse; rw [if_pos c5, if_pos c23, if_neg (by rw [c36]; decide)]]; exact je_ret jb_X11_inverse rfl (by rfl) ⟨_, _, _, rfl, rfl, I.ref (by omega), kG.ref m _, tG.rfl' T⟩)
theorem k_becomePowerOfI {i j : Nat} (hi : i < 13) (hj : j < 13) (hij : j ≠ i) (zi : jZ m i) {s n k e2 : Int} {L2 : Int → Int} (gi : jStr m i s n k) (g2 : jWk m j s n k L2 e2) {y : Int} (hy : 0 ≤ y ∧ y ≤ 1000) : jq sc 6 jm_X8_becomePowerOf [.ref (jwa i), .ref (jwa j), .int (jI y)] (jh m r T) (jP (some (.int (jI (jb (fPow s n k L2 e2 y.toNat).1)))) (jh (jW m i (fPow s n k L2 e2 y.toNat).2.1 (fPow s n k L2 e2 y.toNat).2.2) r T)) := by
  have := k_becomePowerOf (sc := sc) (r := r) (T := T) hi hj hij zi gi g2 (K := y.toNat) (by omega)
  rwa [show ((y.toNat : Nat) : Int) = y by omega] at this
def aPower (A : aT) (x y : Int) : Int × aT :=
  if (0 ≤ x ∧ x < (aC A : Int)) then (if y < 0 then aRef A (-4) else if y ≤ 6 ∧ aC A < 6 then (if (fPow (aS A) (aN A) (aK A) (aW A x.toNat).1 (aW A x.toNat).2 y.toNat).1 = true then ((aC A : Int), sAdd A (fPow (aS A) (aN A) (aK A) (aW A x.toNat).1 (aW A x.toNat).2 y.toNat).2) else aRef A (-6)) else aRef A (-6)) else aRef A (-1)
theorem cl_power {A : aT} (I : iC A m r T) {x y : Int} (hx : -2147483648 ≤ x ∧ x ≤ 2147483647) (hy : -2147483648 ≤ y ∧ y ≤ 2147483647) : jq sc 12 jm_X11_power [.ref 0, .int (jI x), .int (jI y)] (jh m r T) (cQ (aPower A x y) m T) := by
  have c6 := I.c6
  have fs := I.fs
  refine je_in jb_X11_power rfl (ls := [_, _, _, _, _]) rfl ?_
  refine je_ps jb_X11_power 1 (pc' := 1) (ls' := [_, _, _, _, _]) (st' := [_]) rfl ?_
  refine je_get jb_X11_power rfl (pc' := 4) rfl (jh_at (a := 0) rfl) (by rfl) (by rfl) ?_
  refine je_ps jb_X11_power 1 (pc' := 5) (ls' := [_, _, _, _, _]) (st' := [_, _]) rfl ?_
  refine je_cvP' jb_X11_power rfl (pc' := 8) rfl (jh_at (a := 1) rfl) (by rfl) (by first | decide | exact Nat.ble_eq_true_of_le (by omega)) (k_walkAt I.c I.c6 hx) (st' := [_]) rfl ?_
  refine je_mv (fun c5 => ?_) (fun c5 => ?_)
  · skip
    refine je_ps jb_X11_power 2 (pc' := 10) (ls' := [_, _, _, _, _]) (st' := [_]) rfl ?_
    refine je_ifnonnullN jb_X11_power rfl (t := 19) rfl (pc' := 13) rfl ?_
    refine je_ps jb_X11_power 2 (pc' := 15) (ls' := [_, _, _, _, _]) (st' := [_, _]) rfl ?_
    refine je_cvP' jb_X11_power rfl (pc' := 18) rfl (jh_at (a := 0) rfl) (by rfl) (by first | decide | exact Nat.ble_eq_true_of_le (by omega)) (c_X11_refuse (by omega)) (st' := [_]) rfl ?_
    rw [show aPower A x y = aRef A (-1) from by unfold aPower; rw [if_neg c5]]
    exact je_ret jb_X11_power rfl (by rfl) ⟨_, _, _, rfl, rfl, I.ref (by omega), kG.ref m _, tG.rfl' T⟩
  · skip
    have hu : x.toNat < 13 := by omega
    have hun : x.toNat < aC A := by omega
    have gu := I.wk hun
    have ou := I.wo hun
    refine je_ps jb_X11_power 2 (pc' := 10) (ls' := [_, _, _, _, _]) (st' := [_]) rfl ?_
    refine je_ifnonnullR jb_X11_power rfl (t := 19) rfl (pc' := 13) rfl ?_
    refine je_ps jb_X11_power 1 (pc' := 20) (ls' := [_, _, _, _, _]) (st' := [_]) rfl ?_
    refine je_ifge jb_X11_power rfl (t := 30) rfl (pc' := 23) rfl (by first | omega | exact (hM _ _).1 | exact (hM _ _).2) (by first | omega | exact (hM _ _).1 | exact (hM _ _).2) (fun c20 => ?_) (fun c20 => ?_)
    · refine je_ps jb_X11_power 1 (pc' := 31) (ls' := [_, _, _, _, _]) (st' := [_]) rfl ?_
      refine je_get jb_X11_power rfl (pc' := 34) rfl (jh_at (a := 0) rfl) (by rfl) (by rfl) ?_
      refine je_cvP' jb_X11_power rfl (pc' := 37) rfl (jh_at (a := 1) rfl) (by rfl) (by first | decide | exact Nat.ble_eq_true_of_le (by omega)) (k_freeWalk I.c I.c6) (st' := [_]) rfl ?_
      refine je_mv (fun c34 => ?_) (fun c34 => ?_)
      · skip
        refine je_ps jb_X11_power 3 (pc' := 42) (ls' := [_, _, _, _, _]) (st' := [_, _]) rfl ?_
        refine je_icmpgt jb_X11_power rfl (t := 60) rfl (pc' := 45) rfl (by first | omega | exact (hM _ _).1 | exact (hM _ _).2) (by first | omega | exact (hM _ _).1 | exact (hM _ _).2) (by first | omega | exact (hM _ _).1 | exact (hM _ _).2) (by first | omega | exact (hM _ _).1 | exact (hM _ _).2) (fun c42 => ?_) (fun c42 => ?_)
        · refine je_ps jb_X11_power 2 (pc' := 63) (ls' := [_, _, _, _, _]) (st' := [_, _]) rfl ?_
          refine je_cvP' jb_X11_power rfl (pc' := 66) rfl (jh_at (a := 0) rfl) (by rfl) (by first | decide | exact Nat.ble_eq_true_of_le (by omega)) (c_X11_refuse (by omega)) (st' := [_]) rfl ?_
          first | (rw [show aPower A x y = aRef A (-6) from by unfold aPower; rw [if_pos c5, if_neg (by omega), if_neg (by omega)]]; exact je_ret jb_X11_power rfl (by rfl) ⟨_, _, _, rfl, rfl, I.ref (by omega), kG.ref m _, tG.rfl' T⟩) | (rw [show aPower A x y = aRef A (-6) from by unfold aPower; rw [if_pos c5, if_neg (by omega), if_pos (by omega), if_neg (by rw [c57]; decide)]]; exact je_ret jb_X11_power rfl (by rfl) ⟨_, _, _, rfl, rfl, (I.junk (Or.inl ⟨Nat.le_refl _, c34⟩) (wOkk.pow (w := aW A x.toNat) fs y.toNat).2.2).ref (by omega), ((kG.rfl' m).w hc _ _).u (by decide) _, tG.rfl' T⟩)
        · refine je_ps jb_X11_power 1 (pc' := 47) (ls' := [_, _, _, _, _]) (st' := [_]) rfl ?_
          refine je_ifnullN jb_X11_power rfl (t := 60) rfl (pc' := 50) rfl ?_
          refine je_ps jb_X11_power 2 (pc' := 63) (ls' := [_, _, _, _, _]) (st' := [_, _]) rfl ?_
          refine je_cvP' jb_X11_power rfl (pc' := 66) rfl (jh_at (a := 0) rfl) (by rfl) (by first | decide | exact Nat.ble_eq_true_of_le (by omega)) (c_X11_refuse (by omega)) (st' := [_]) rfl ?_
          first | (rw [show aPower A x y = aRef A (-6) from by unfold aPower; rw [if_pos c5, if_neg (by omega), if_neg (by omega)]]; exact je_ret jb_X11_power rfl (by rfl) ⟨_, _, _, rfl, rfl, I.ref (by omega), kG.ref m _, tG.rfl' T⟩) | (rw [show aPower A x y = aRef A (-6) from by unfold aPower; rw [if_pos c5, if_neg (by omega), if_pos (by omega), if_neg (by rw [c57]; decide)]]; exact je_ret jb_X11_power rfl (by rfl) ⟨_, _, _, rfl, rfl, (I.junk (Or.inl ⟨Nat.le_refl _, c34⟩) (wOkk.pow (w := aW A x.toNat) fs y.toNat).2.2).ref (by omega), ((kG.rfl' m).w hc _ _).u (by decide) _, tG.rfl' T⟩)
      · skip
        have hc : aC A < 13 := by omega
        have gs := I.str (i := aC A) (jws_6 (by omega))
        refine je_ps jb_X11_power 3 (pc' := 42) (ls' := [_, _, _, _, _]) (st' := [_, _]) rfl ?_
        refine je_icmpgt jb_X11_power rfl (t := 60) rfl (pc' := 45) rfl (by first | omega | exact (hM _ _).1 | exact (hM _ _).2) (by first | omega | exact (hM _ _).1 | exact (hM _ _).2) (by first | omega | exact (hM _ _).1 | exact (hM _ _).2) (by first | omega | exact (hM _ _).1 | exact (hM _ _).2) (fun c42 => ?_) (fun c42 => ?_)
        · refine je_ps jb_X11_power 2 (pc' := 63) (ls' := [_, _, _, _, _]) (st' := [_, _]) rfl ?_
          refine je_cvP' jb_X11_power rfl (pc' := 66) rfl (jh_at (a := 0) rfl) (by rfl) (by first | decide | exact Nat.ble_eq_true_of_le (by omega)) (c_X11_refuse (by omega)) (st' := [_]) rfl ?_
          first | (rw [show aPower A x y = aRef A (-6) from by unfold aPower; rw [if_pos c5, if_neg (by omega), if_neg (by omega)]]; exact je_ret jb_X11_power rfl (by rfl) ⟨_, _, _, rfl, rfl, I.ref (by omega), kG.ref m _, tG.rfl' T⟩) | (rw [show aPower A x y = aRef A (-6) from by unfold aPower; rw [if_pos c5, if_neg (by omega), if_pos (by omega), if_neg (by rw [c57]; decide)]]; exact je_ret jb_X11_power rfl (by rfl) ⟨_, _, _, rfl, rfl, (I.junk (Or.inl ⟨Nat.le_refl _, c34⟩) (wOkk.pow (w := aW A x.toNat) fs y.toNat).2.2).ref (by omega), ((kG.rfl' m).w hc _ _).u (by decide) _, tG.rfl' T⟩)
        · refine je_ps jb_X11_power 1 (pc' := 47) (ls' := [_, _, _, _, _]) (st' := [_]) rfl ?_
          refine je_ifnullR jb_X11_power rfl (t := 60) rfl (pc' := 50) rfl ?_
          refine je_ps jb_X11_power 3 (pc' := 54) (ls' := [_, _, _, _, _]) (st' := [_, _, _]) rfl ?_
          refine je_cvP' jb_X11_power rfl (pc' := 57) rfl (jh_walk hc) (by rfl) (by first | decide | exact Nat.ble_eq_true_of_le (by omega)) (k_becomePowerOfI hc hu (by omega) (I.z hc) gs gu (by omega)) (st' := [_]) rfl ?_
          refine je_ifneb jb_X11_power rfl (t := 67) rfl (pc' := 60) rfl (fun c57 => ?_) (fun c57 => ?_)
          · refine je_ps jb_X11_power 1 (pc' := 68) (ls' := [_, _, _, _, _]) (st' := [_]) rfl ?_
            refine je_get jb_X11_power rfl (pc' := 71) rfl (jh_at (a := 0) rfl) (by rfl) (by rfl) ?_
            refine je_cvP' jb_X11_power rfl (pc' := 74) rfl (jh_at (a := 1) rfl) (by rfl) (by first | decide | exact Nat.ble_eq_true_of_le (by omega)) (keepFreeWalk_n (c := (aC A : Int)) (by rw [jW_1 hc]; exact I.c)) (st' := [_]) rfl ?_
            rw [show aPower A x y = ((aC A : Int), sAdd A (fPow (aS A) (aN A) (aK A) (aW A x.toNat).1 (aW A x.toNat).2 y.toNat).2) from by unfold aPower; rw [if_pos c5, if_neg (by omega), if_pos (by omega), if_pos c57]]
            rw [jW_1 hc]
            exact je_ret jb_X11_power rfl (by rfl) ⟨_, _, _, rfl, rfl, I.add c34 (wOkk.pow (w := aW A x.toNat) fs y.toNat), ((kG.rfl' m).w hc _ _).u (by decide) _, tG.rfl' T⟩
          · refine je_ps jb_X11_power 2 (pc' := 63) (ls' := [_, _, _, _, _]) (st' := [_, _]) rfl ?_
            refine je_cvP' jb_X11_power rfl (pc' := 66) rfl (jh_at (a := 0) rfl) (by rfl) (by first | decide | exact Nat.ble_eq_true_of_le (by omega)) (c_X11_refuse (by omega)) (st' := [_]) rfl ?_
            first | (rw [show aPower A x y = aRef A (-6) from by unfold aPower; rw [if_pos c5, if_neg (by omega), if_neg (by omega)]]; exact je_ret jb_X11_power rfl (by rfl) ⟨_, _, _, rfl, rfl, I.ref (by omega), kG.ref m _, tG.rfl' T⟩) | (rw [show aPower A x y = aRef A (-6) from by unfold aPower; rw [if_pos c5, if_neg (by omega), if_pos (by omega), if_neg (by rw [c57]; decide)]]; exact je_ret jb_X11_power rfl (by rfl) ⟨_, _, _, rfl, rfl, (I.junk (Or.inl ⟨Nat.le_refl _, c34⟩) (wOkk.pow (w := aW A x.toNat) fs y.toNat).2.2).ref (by omega), ((kG.rfl' m).w hc _ _).u (by decide) _, tG.rfl' T⟩)
    · refine je_ps jb_X11_power 2 (pc' := 26) (ls' := [_, _, _, _, _]) (st' := [_, _]) rfl ?_
      refine je_cvP' jb_X11_power rfl (pc' := 29) rfl (jh_at (a := 0) rfl) (by rfl) (by first | decide | exact Nat.ble_eq_true_of_le (by omega)) (c_X11_refuse (by omega)) (st' := [_]) rfl ?_
      rw [show aPower A x y = aRef A (-4) from by unfold aPower; rw [if_pos c5, if_pos (by omega)]]
      exact je_ret jb_X11_power rfl (by rfl) ⟨_, _, _, rfl, rfl, I.ref (by omega), kG.ref m _, tG.rfl' T⟩
def aCj1 (A : aT) (x y : Int) : Bool × wT := (fMul (aS A) (aN A) (aK A) (aInv (aS A) (aN A) (aK A) (aW A y.toNat)).1 (aInv (aS A) (aN A) (aK A) (aW A y.toNat)).2 (aW A x.toNat).1 (aW A x.toNat).2)
def aCj2 (A : aT) (x y : Int) : Bool × wT := (fMul (aS A) (aN A) (aK A) (aCj1 A x y).2.1 (aCj1 A x y).2.2 (aW A y.toNat).1 (aW A y.toNat).2)
def aConj (A : aT) (x y : Int) : Int × aT :=
  if (0 ≤ x ∧ x < (aC A : Int)) ∧ (0 ≤ y ∧ y < (aC A : Int)) then (if aC A < 6 then (if fFit (aS A) (aN A) (aW A y.toNat).1 (-(aW A y.toNat).2) = true ∧ (aCj1 A x y).1 = true ∧ (aCj2 A x y).1 = true then ((aC A : Int), sAdd A (aCj2 A x y).2) else aRef A (-6)) else aRef A (-6)) else aRef A (-1)
theorem cl_conjugate {A : aT} (I : iC A m r T) {x y : Int} (hx : -2147483648 ≤ x ∧ x ≤ 2147483647) (hy : -2147483648 ≤ y ∧ y ≤ 2147483647) : jq sc 14 jm_X11_conjugate [.ref 0, .int (jI x), .int (jI y)] (jh m r T) (cQ (aConj A x y) m T) := by
  have c6 := I.c6
  have fs := I.fs
  refine je_in jb_X11_conjugate rfl (ls := [_, _, _, _, _, _, _]) rfl ?_
  refine je_ps jb_X11_conjugate 1 (pc' := 1) (ls' := [_, _, _, _, _, _, _]) (st' := [_]) rfl ?_
  refine je_get jb_X11_conjugate rfl (pc' := 4) rfl (jh_at (a := 0) rfl) (by rfl) (by rfl) ?_
  refine je_ps jb_X11_conjugate 1 (pc' := 5) (ls' := [_, _, _, _, _, _, _]) (st' := [_, _]) rfl ?_
  refine je_cvP' jb_X11_conjugate rfl (pc' := 8) rfl (jh_at (a := 1) rfl) (by rfl) (by first | decide | exact Nat.ble_eq_true_of_le (by omega)) (k_walkAt I.c I.c6 hx) (st' := [_]) rfl ?_
  refine je_mv (fun c5 => ?_) (fun c5 => ?_)
  · skip
    refine je_ps jb_X11_conjugate 2 (pc' := 10) (ls' := [_, _, _, _, _, _, _]) (st' := [_]) rfl ?_
    refine je_get jb_X11_conjugate rfl (pc' := 13) rfl (jh_at (a := 0) rfl) (by rfl) (by rfl) ?_
    refine je_ps jb_X11_conjugate 1 (pc' := 14) (ls' := [_, _, _, _, _, _, _]) (st' := [_, _]) rfl ?_
    refine je_cvP' jb_X11_conjugate rfl (pc' := 17) rfl (jh_at (a := 1) rfl) (by rfl) (by first | decide | exact Nat.ble_eq_true_of_le (by omega)) (k_walkAt I.c I.c6 hy) (st' := [_]) rfl ?_
    refine je_mv (fun c14 => ?_) (fun c14 => ?_)
    · skip
      refine je_ps jb_X11_conjugate 2 (pc' := 20) (ls' := [_, _, _, _, _, _, _]) (st' := [_]) rfl ?_
      refine je_ifnullN jb_X11_conjugate rfl (t := 28) rfl (pc' := 23) rfl ?_
      refine je_ps jb_X11_conjugate 2 (pc' := 30) (ls' := [_, _, _, _, _, _, _]) (st' := [_, _]) rfl ?_
      refine je_cvP' jb_X11_conjugate rfl (pc' := 33) rfl (jh_at (a := 0) rfl) (by rfl) (by first | decide | exact Nat.ble_eq_true_of_le (by omega)) (c_X11_refuse (by omega)) (st' := [_]) rfl ?_
      rw [show aConj A x y = aRef A (-1) from by unfold aConj; rw [if_neg (by omega)]]
      exact je_ret jb_X11_conjugate rfl (by rfl) ⟨_, _, _, rfl, rfl, I.ref (by omega), kG.ref m _, tG.rfl' T⟩
    · skip
      have hv : y.toNat < 13 := by omega
      have hvn : y.toNat < aC A := by omega
      have gv := I.wk hvn
      have ov := I.wo hvn
      refine je_ps jb_X11_conjugate 2 (pc' := 20) (ls' := [_, _, _, _, _, _, _]) (st' := [_]) rfl ?_
      refine je_ifnullN jb_X11_conjugate rfl (t := 28) rfl (pc' := 23) rfl ?_
      refine je_ps jb_X11_conjugate 2 (pc' := 30) (ls' := [_, _, _, _, _, _, _]) (st' := [_, _]) rfl ?_
      refine je_cvP' jb_X11_conjugate rfl (pc' := 33) rfl (jh_at (a := 0) rfl) (by rfl) (by first | decide | exact Nat.ble_eq_true_of_le (by omega)) (c_X11_refuse (by omega)) (st' := [_]) rfl ?_
      rw [show aConj A x y = aRef A (-1) from by unfold aConj; rw [if_neg (by omega)]]
      exact je_ret jb_X11_conjugate rfl (by rfl) ⟨_, _, _, rfl, rfl, I.ref (by omega), kG.ref m _, tG.rfl' T⟩
  · skip
    have hu : x.toNat < 13 := by omega
    have hun : x.toNat < aC A := by omega
    have gu := I.wk hun
    have ou := I.wo hun
    refine je_ps jb_X11_conjugate 2 (pc' := 10) (ls' := [_, _, _, _, _, _, _]) (st' := [_]) rfl ?_
    refine je_get jb_X11_conjugate rfl (pc' := 13) rfl (jh_at (a := 0) rfl) (by rfl) (by rfl) ?_
    refine je_ps jb_X11_conjugate 1 (pc' := 14) (ls' := [_, _, _, _, _, _, _]) (st' := [_, _]) rfl ?_
    refine je_cvP' jb_X11_conjugate rfl (pc' := 17) rfl (jh_at (a := 1) rfl) (by rfl) (by first | decide | exact Nat.ble_eq_true_of_le (by omega)) (k_walkAt I.c I.c6 hy) (st' := [_]) rfl ?_
    refine je_mv (fun c14 => ?_) (fun c14 => ?_)
    · skip
      refine je_ps jb_X11_conjugate 2 (pc' := 20) (ls' := [_, _, _, _, _, _, _]) (st' := [_]) rfl ?_
      refine je_ifnullR jb_X11_conjugate rfl (t := 28) rfl (pc' := 23) rfl ?_
      refine je_ps jb_X11_conjugate 1 (pc' := 25) (ls' := [_, _, _, _, _, _, _]) (st' := [_]) rfl ?_
      refine je_ifnonnullN jb_X11_conjugate rfl (t := 34) rfl (pc' := 28) rfl ?_
      refine je_ps jb_X11_conjugate 2 (pc' := 30) (ls' := [_, _, _, _, _, _, _]) (st' := [_, _]) rfl ?_
      refine je_cvP' jb_X11_conjugate rfl (pc' := 33) rfl (jh_at (a := 0) rfl) (by rfl) (by first | decide | exact Nat.ble_eq_true_of_le (by omega)) (c_X11_refuse (by omega)) (st' := [_]) rfl ?_
      rw [show aConj A x y = aRef A (-1) from by unfold aConj; rw [if_neg (by omega)]]
      exact je_ret jb_X11_conjugate rfl (by rfl) ⟨_, _, _, rfl, rfl, I.ref (by omega), kG.ref m _, tG.rfl' T⟩
    · skip
      have hv : y.toNat < 13 := by omega
      have hvn : y.toNat < aC A := by omega
      have gv := I.wk hvn
      have ov := I.wo hvn
      refine je_ps jb_X11_conjugate 2 (pc' := 20) (ls' := [_, _, _, _, _, _, _]) (st' := [_]) rfl ?_
      refine je_ifnullR jb_X11_conjugate rfl (t := 28) rfl (pc' := 23) rfl ?_
      refine je_ps jb_X11_conjugate 1 (pc' := 25) (ls' := [_, _, _, _, _, _, _]) (st' := [_]) rfl ?_
      refine je_ifnonnullR jb_X11_conjugate rfl (t := 34) rfl (pc' := 28) rfl ?_
      refine je_ps jb_X11_conjugate 1 (pc' := 35) (ls' := [_, _, _, _, _, _, _]) (st' := [_]) rfl ?_
      refine je_get jb_X11_conjugate rfl (pc' := 38) rfl (jh_at (a := 0) rfl) (by rfl) (by rfl) ?_
      refine je_cvP' jb_X11_conjugate rfl (pc' := 41) rfl (jh_at (a := 1) rfl) (by rfl) (by first | decide | exact Nat.ble_eq_true_of_le (by omega)) (k_freeWalk I.c I.c6) (st' := [_]) rfl ?_
      refine je_mv (fun c38 => ?_) (fun c38 => ?_)
      · skip
        refine je_ps jb_X11_conjugate 2 (pc' := 45) (ls' := [_, _, _, _, _, _, _]) (st' := [_]) rfl ?_
        refine je_ifnonnullN jb_X11_conjugate rfl (t := 55) rfl (pc' := 48) rfl ?_
        refine je_ps jb_X11_conjugate 2 (pc' := 51) (ls' := [_, _, _, _, _, _, _]) (st' := [_, _]) rfl ?_
        refine je_cvP' jb_X11_conjugate rfl (pc' := 54) rfl (jh_at (a := 0) rfl) (by rfl) (by first | decide | exact Nat.ble_eq_true_of_le (by omega)) (c_X11_refuse (by omega)) (st' := [_]) rfl ?_
        rw [show aConj A x y = aRef A (-6) from by unfold aConj; rw [if_pos ⟨c5, c14⟩, if_neg c38]]
        exact je_ret jb_X11_conjugate rfl (by rfl) ⟨_, _, _, rfl, rfl, I.ref (by omega), kG.ref m _, tG.rfl' T⟩
      · skip
        have hc : aC A < 13 := by omega
        have gs := I.str (i := aC A) (jws_6 (by omega))
        refine je_ps jb_X11_conjugate 2 (pc' := 45) (ls' := [_, _, _, _, _, _, _]) (st' := [_]) rfl ?_
        refine je_ifnonnullR jb_X11_conjugate rfl (t := 55) rfl (pc' := 48) rfl ?_
        refine je_ps jb_X11_conjugate 2 (pc' := 59) (ls' := [_, _, _, _, _, _, _]) (st' := [_, _]) rfl ?_
        refine je_cvP' jb_X11_conjugate rfl (pc' := 62) rfl (jh_walk hc) (by rfl) (by first | decide | exact Nat.ble_eq_true_of_le (by omega)) (k_becomeInverseOf hc hv (by omega) (I.z hc) gs gv) (st' := [_]) rfl ?_
        refine je_ifeqb jb_X11_conjugate rfl (t := 88) rfl (pc' := 65) rfl (fun c62 => ?_) (fun c62 => ?_)
        · refine je_ps jb_X11_conjugate 3 (pc' := 93) (ls' := [_, _, _, _, _, _, _]) (st' := [_]) rfl ?_
          refine je_ifeq jb_X11_conjugate rfl (t := 106) rfl (pc' := 96) rfl (by first | omega | exact (hM _ _).1 | exact (hM _ _).2) (by first | omega | exact (hM _ _).1 | exact (hM _ _).2) (fun c93 => ?_) (fun c93 => ?_)
          · refine je_ps jb_X11_conjugate 2 (pc' := 109) (ls' := [_, _, _, _, _, _, _]) (st' := [_, _]) rfl ?_
            refine je_cvP' jb_X11_conjugate rfl (pc' := 112) rfl (jh_at (a := 0) rfl) (by rfl) (by first | decide | exact Nat.ble_eq_true_of_le (by omega)) (c_X11_refuse (by omega)) (st' := [_]) rfl ?_
            first | (rw [if_neg (by rw [c62]; decide)]; rw [show aConj A x y = aRef A (-6) from by unfold aConj; rw [if_pos ⟨c5, c14⟩, if_pos c38, if_neg (fun h => by rw [h.1] at c62; cases c62)]]; exact je_ret jb_X11_conjugate rfl (by rfl) ⟨_, _, _, rfl, rfl, I.ref (by omega), kG.ref m _, tG.rfl' T⟩) | (rw [show aConj A x y = aRef A (-6) from by unfold aConj; rw [if_pos ⟨c5, c14⟩, if_pos c38, if_neg (fun h => by rw [h.2.1] at c71; cases c71)]]; exact je_ret jb_X11_conjugate rfl (by rfl) ⟨_, _, _, rfl, rfl, (I.junk (Or.inl ⟨Nat.le_refl _, c38⟩) (wOkk.mul (w2 := aW A x.toNat) fs o1).2.2).ref (by omega), ((kG.rfl' m).w hc _ _).u (by decide) _, tG.rfl' T⟩) | (rw [show aConj A x y = aRef A (-6) from by unfold aConj; rw [if_pos ⟨c5, c14⟩, if_pos c38, if_neg (fun h => by rw [h.2.2] at c81; cases c81)]]; exact je_ret jb_X11_conjugate rfl (by rfl) ⟨_, _, _, rfl, rfl, (I.junk (Or.inl ⟨Nat.le_refl _, c38⟩) o3.2.2).ref (by omega), ((kG.rfl' m).w hc _ _).u (by decide) _, tG.rfl' T⟩) | (rw [show aConj A x y = ((aC A : Int), sAdd A (aCj2 A x y).2) from by unfold aConj; rw [if_pos ⟨c5, c14⟩, if_pos c38, if_pos ⟨c62, c71, c81⟩]]; rw [jW_1 hc]; exact je_ret jb_X11_conjugate rfl (by rfl) ⟨_, _, _, rfl, rfl, I.add c38 o3, ((kG.rfl' m).w hc _ _).u (by decide) _, tG.rfl' T⟩)
          · first | (exfalso; omega) | (cases c93; done) | (exfalso; simp_all; done)
        · rw [if_pos c62]
          have o1 : wOkk (aS A) (aN A) (aK A) (aInv (aS A) (aN A) (aK A) (aW A y.toNat)) := ov.inv fs
          have g1 := jWk.w (m := m) gs hc o1.1 o1.2.1
          have gu1 := jWk.o (m := m) gu hu hc (by omega) (aInv (aS A) (aN A) (aK A) (aW A y.toNat)).1 (aInv (aS A) (aN A) (aK A) (aW A y.toNat)).2
          refine je_ps jb_X11_conjugate 2 (pc' := 68) (ls' := [_, _, _, _, _, _, _]) (st' := [_, _]) rfl ?_
          refine je_cvP' jb_X11_conjugate rfl (pc' := 71) rfl (jh_walk hc) (by rfl) (by first | decide | exact Nat.ble_eq_true_of_le (by omega)) (k_multiplyBy hc hu (by omega) g1 gu1) (st' := [_]) rfl ?_
          rw [jW_W hc]
          show je _ _ _ _ _ [.int (jI (jb (aCj1 A x y).1))] (jh (jW m (aC A) (aCj1 A x y).2.1 (aCj1 A x y).2.2) r T) _
          refine je_ifeqb jb_X11_conjugate rfl (t := 88) rfl (pc' := 74) rfl (fun c71 => ?_) (fun c71 => ?_)
          · refine je_ps jb_X11_conjugate 3 (pc' := 93) (ls' := [_, _, _, _, _, _, _]) (st' := [_]) rfl ?_
            refine je_ifeq jb_X11_conjugate rfl (t := 106) rfl (pc' := 96) rfl (by first | omega | exact (hM _ _).1 | exact (hM _ _).2) (by first | omega | exact (hM _ _).1 | exact (hM _ _).2) (fun c93 => ?_) (fun c93 => ?_)
            · refine je_ps jb_X11_conjugate 2 (pc' := 109) (ls' := [_, _, _, _, _, _, _]) (st' := [_, _]) rfl ?_
              refine je_cvP' jb_X11_conjugate rfl (pc' := 112) rfl (jh_at (a := 0) rfl) (by rfl) (by first | decide | exact Nat.ble_eq_true_of_le (by omega)) (c_X11_refuse (by omega)) (st' := [_]) rfl ?_
              first | (rw [if_neg (by rw [c62]; decide)]; rw [show aConj A x y = aRef A (-6) from by unfold aConj; rw [if_pos ⟨c5, c14⟩, if_pos c38, if_neg (fun h => by rw [h.1] at c62; cases c62)]]; exact je_ret jb_X11_conjugate rfl (by rfl) ⟨_, _, _, rfl, rfl, I.ref (by omega), kG.ref m _, tG.rfl' T⟩) | (rw [show aConj A x y = aRef A (-6) from by unfold aConj; rw [if_pos ⟨c5, c14⟩, if_pos c38, if_neg (fun h => by rw [h.2.1] at c71; cases c71)]]; exact je_ret jb_X11_conjugate rfl (by rfl) ⟨_, _, _, rfl, rfl, (I.junk (Or.inl ⟨Nat.le_refl _, c38⟩) (wOkk.mul (w2 := aW A x.toNat) fs o1).2.2).ref (by omega), ((kG.rfl' m).w hc _ _).u (by decide) _, tG.rfl' T⟩) | (rw [show aConj A x y = aRef A (-6) from by unfold aConj; rw [if_pos ⟨c5, c14⟩, if_pos c38, if_neg (fun h => by rw [h.2.2] at c81; cases c81)]]; exact je_ret jb_X11_conjugate rfl (by rfl) ⟨_, _, _, rfl, rfl, (I.junk (Or.inl ⟨Nat.le_refl _, c38⟩) o3.2.2).ref (by omega), ((kG.rfl' m).w hc _ _).u (by decide) _, tG.rfl' T⟩) | (rw [show aConj A x y = ((aC A : Int), sAdd A (aCj2 A x y).2) from by unfold aConj; rw [if_pos ⟨c5, c14⟩, if_pos c38, if_pos ⟨c62, c71, c81⟩]]; rw [jW_1 hc]; exact je_ret jb_X11_conjugate rfl (by rfl) ⟨_, _, _, rfl, rfl, I.add c38 o3, ((kG.rfl' m).w hc _ _).u (by decide) _, tG.rfl' T⟩)
            · first | (exfalso; omega) | (cases c93; done) | (exfalso; simp_all; done)
          · have o2 : wOkk (aS A) (aN A) (aK A) (aCj1 A x y).2 := o1.mul fs
            have g2 := jWk.w (m := m) gs hc o2.1 o2.2.1
            have gv2 := jWk.o (m := m) gv hv hc (by omega) (aCj1 A x y).2.1 (aCj1 A x y).2.2
            refine je_ps jb_X11_conjugate 2 (pc' := 78) (ls' := [_, _, _, _, _, _, _]) (st' := [_, _]) rfl ?_
            refine je_cvP' jb_X11_conjugate rfl (pc' := 81) rfl (jh_walk hc) (by rfl) (by first | decide | exact Nat.ble_eq_true_of_le (by omega)) (k_multiplyBy hc hv (by omega) g2 gv2) (st' := [_]) rfl ?_
            rw [jW_W hc]
            show je _ _ _ _ _ [.int (jI (jb (aCj2 A x y).1))] (jh (jW m (aC A) (aCj2 A x y).2.1 (aCj2 A x y).2.2) r T) _
            have o3 : wOkk (aS A) (aN A) (aK A) (aCj2 A x y).2 := o2.mul fs
            refine je_ifeqb jb_X11_conjugate rfl (t := 88) rfl (pc' := 84) rfl (fun c81 => ?_) (fun c81 => ?_)
            · refine je_ps jb_X11_conjugate 3 (pc' := 93) (ls' := [_, _, _, _, _, _, _]) (st' := [_]) rfl ?_
              refine je_ifeq jb_X11_conjugate rfl (t := 106) rfl (pc' := 96) rfl (by first | omega | exact (hM _ _).1 | exact (hM _ _).2) (by first | omega | exact (hM _ _).1 | exact (hM _ _).2) (fun c93 => ?_) (fun c93 => ?_)
              · refine je_ps jb_X11_conjugate 2 (pc' := 109) (ls' := [_, _, _, _, _, _, _]) (st' := [_, _]) rfl ?_
                refine je_cvP' jb_X11_conjugate rfl (pc' := 112) rfl (jh_at (a := 0) rfl) (by rfl) (by first | decide | exact Nat.ble_eq_true_of_le (by omega)) (c_X11_refuse (by omega)) (st' := [_]) rfl ?_
                first | (rw [if_neg (by rw [c62]; decide)]; rw [show aConj A x y = aRef A (-6) from by unfold aConj; rw [if_pos ⟨c5, c14⟩, if_pos c38, if_neg (fun h => by rw [h.1] at c62; cases c62)]]; exact je_ret jb_X11_conjugate rfl (by rfl) ⟨_, _, _, rfl, rfl, I.ref (by omega), kG.ref m _, tG.rfl' T⟩) | (rw [show aConj A x y = aRef A (-6) from by unfold aConj; rw [if_pos ⟨c5, c14⟩, if_pos c38, if_neg (fun h => by rw [h.2.1] at c71; cases c71)]]; exact je_ret jb_X11_conjugate rfl (by rfl) ⟨_, _, _, rfl, rfl, (I.junk (Or.inl ⟨Nat.le_refl _, c38⟩) (wOkk.mul (w2 := aW A x.toNat) fs o1).2.2).ref (by omega), ((kG.rfl' m).w hc _ _).u (by decide) _, tG.rfl' T⟩) | (rw [show aConj A x y = aRef A (-6) from by unfold aConj; rw [if_pos ⟨c5, c14⟩, if_pos c38, if_neg (fun h => by rw [h.2.2] at c81; cases c81)]]; exact je_ret jb_X11_conjugate rfl (by rfl) ⟨_, _, _, rfl, rfl, (I.junk (Or.inl ⟨Nat.le_refl _, c38⟩) o3.2.2).ref (by omega), ((kG.rfl' m).w hc _ _).u (by decide) _, tG.rfl' T⟩) | (rw [show aConj A x y = ((aC A : Int), sAdd A (aCj2 A x y).2) from by unfold aConj; rw [if_pos ⟨c5, c14⟩, if_pos c38, if_pos ⟨c62, c71, c81⟩]]; rw [jW_1 hc]; exact je_ret jb_X11_conjugate rfl (by rfl) ⟨_, _, _, rfl, rfl, I.add c38 o3, ((kG.rfl' m).w hc _ _).u (by decide) _, tG.rfl' T⟩)
              · first | (exfalso; omega) | (cases c93; done) | (exfalso; simp_all; done)
            · refine je_ps jb_X11_conjugate 4 (pc' := 93) (ls' := [_, _, _, _, _, _, _]) (st' := [_]) rfl ?_
              refine je_ifeq jb_X11_conjugate rfl (t := 106) rfl (pc' := 96) rfl (by first | omega | exact (hM _ _).1 | exact (hM _ _).2) (by first | omega | exact (hM _ _).1 | exact (hM _ _).2) (fun c93 => ?_) (fun c93 => ?_)
              · first | (exfalso; omega) | (cases c93; done) | (exfalso; simp_all; done)
              · refine je_ps jb_X11_conjugate 1 (pc' := 97) (ls' := [_, _, _, _, _, _, _]) (st' := [_]) rfl ?_
                refine je_get jb_X11_conjugate rfl (pc' := 100) rfl (jh_at (a := 0) rfl) (by rfl) (by rfl) ?_
                refine je_cvP' jb_X11_conjugate rfl (pc' := 103) rfl (jh_at (a := 1) rfl) (by rfl) (by first | decide | exact Nat.ble_eq_true_of_le (by omega)) (keepFreeWalk_n (c := (aC A : Int)) (by rw [jW_1 hc]; exact I.c)) (st' := [_]) rfl ?_
                refine je_ps jb_X11_conjugate 1 (pc' := 112) (ls' := [_, _, _, _, _, _, _]) (st' := [_]) rfl ?_
                first | (rw [if_neg (by rw [c62]; decide)]; rw [show aConj A x y = aRef A (-6) from by unfold aConj; rw [if_pos ⟨c5, c14⟩, if_pos c38, if_neg (fun h => by rw [h.1] at c62; cases c62)]]; exact je_ret jb_X11_conjugate rfl (by rfl) ⟨_, _, _, rfl, rfl, I.ref (by omega), kG.ref m _, tG.rfl' T⟩) | (rw [show aConj A x y = aRef A (-6) from by unfold aConj; rw [if_pos ⟨c5, c14⟩, if_pos c38, if_neg (fun h => by rw [h.2.1] at c71; cases c71)]]; exact je_ret jb_X11_conjugate rfl (by rfl) ⟨_, _, _, rfl, rfl, (I.junk (Or.inl ⟨Nat.le_refl _, c38⟩) (wOkk.mul (w2 := aW A x.toNat) fs o1).2.2).ref (by omega), ((kG.rfl' m).w hc _ _).u (by decide) _, tG.rfl' T⟩) | (rw [show aConj A x y = aRef A (-6) from by unfold aConj; rw [if_pos ⟨c5, c14⟩, if_pos c38, if_neg (fun h => by rw [h.2.2] at c81; cases c81)]]; exact je_ret jb_X11_conjugate rfl (by rfl) ⟨_, _, _, rfl, rfl, (I.junk (Or.inl ⟨Nat.le_refl _, c38⟩) o3.2.2).ref (by omega), ((kG.rfl' m).w hc _ _).u (by decide) _, tG.rfl' T⟩) | (rw [show aConj A x y = ((aC A : Int), sAdd A (aCj2 A x y).2) from by unfold aConj; rw [if_pos ⟨c5, c14⟩, if_pos c38, if_pos ⟨c62, c71, c81⟩]]; rw [jW_1 hc]; exact je_ret jb_X11_conjugate rfl (by rfl) ⟨_, _, _, rfl, rfl, I.add c38 o3, ((kG.rfl' m).w hc _ _).u (by decide) _, tG.rfl' T⟩)
end C54
