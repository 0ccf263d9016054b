/-! CALLS of the class: spheres, odds, steps, lots, counts -/
section C57
variable {sc : Nat × (Nat → Int32)} {m : Nat → Int → Int} {r : Nat → Nat → Value} {T : jx_H} {σ : jx_H}
theorem iC.q8 {A : aT} (I : iC A m r T) : ∃ q, jQ39 m q ∧ qOk q := I.2.2.2.2.2.2.1
theorem iC.q7 {A : aT} (I : iC A m r T) : ∃ q, jQ37 m q ∧ qB q := I.2.2.2.2.2.1
def aSphere (A : aT) (x : Int) : Int × aT := if x < 0 then aRef A (-4) else if 5 < x then aRef A (-6) else (((gAcc (aS A) (aN A) (aK A) x.toNat (4 ^ x.toNat)).length : Int), A)
theorem cl_sphere {A : aT} (I : iC A m r T) {x : Int} (hx : -2147483648 ≤ x ∧ x ≤ 2147483647) : jq sc 16 jm_X11_sphere [.ref 0, .int (jI x)] (jh m r T) (cQ (aSphere A x) m T) := by
  have c6 := I.c6
  have fs := I.fs
  obtain ⟨q8, gq8, ok8⟩ := I.q8
  refine je_in jb_X11_sphere rfl (ls := [_, _, _]) rfl ?_
  refine je_ps jb_X11_sphere 1 (pc' := 1) (ls' := [_, _, _]) (st' := [_]) rfl ?_
  refine je_ifge jb_X11_sphere rfl (t := 11) rfl (pc' := 4) rfl (by first | omega | exact (hM _ _).1 | exact (hM _ _).2) (by first | omega | exact (hM _ _).1 | exact (hM _ _).2) (fun c1 => ?_) (fun c1 => ?_)
  · refine je_ps jb_X11_sphere 2 (pc' := 13) (ls' := [_, _, _]) (st' := [_, _]) rfl ?_
    refine je_icmple jb_X11_sphere rfl (t := 23) rfl (pc' := 16) rfl (by first | omega | exact (hM _ _).1 | exact (hM _ _).2) (by first | omega | exact (hM _ _).1 | exact (hM _ _).2) (by first | omega | exact (hM _ _).1 | exact (hM _ _).2) (by first | omega | exact (hM _ _).1 | exact (hM _ _).2) (fun c13 => ?_) (fun c13 => ?_)
    · refine je_ps jb_X11_sphere 1 (pc' := 24) (ls' := [_, _, _]) (st' := [_]) rfl ?_
      refine je_get jb_X11_sphere rfl (pc' := 27) rfl (jh_at (a := 0) rfl) (by rfl) (by rfl) ?_
      refine je_cvP' jb_X11_sphere rfl (pc' := 30) rfl (jh_at (a := 41) rfl) (by rfl) (by first | decide | exact Nat.ble_eq_true_of_le (by omega)) (k39_clear gq8) (st' := []) rfl ?_
      have h12 : (12 : Nat) < 13 := by decide
      have ok0 : qOk (q8.1, 0) := ⟨⟨Int.le_refl 0, by show (0 : Int) ≤ 324; decide⟩, ok8.2⟩
      have I1 := I.r39 (q := (q8.1, 0)) ok0
      have I2 := I1.junk (i := 12) (e := 0) (Or.inr rfl) fZ_0
      have g2 := jWk.w (m := jR39 m (q8.1, 0)) (i := 12) (I1.str (i := 12) (by decide)) h12 (fL_0 fs) (fC_0 fs)
      have gq2 := (jQ39_R m (q := (q8.1, 0)) ok0.1.1 ok0.1.2).w h12 (fun _ => 0) 0
      have ok3 := fGat_ok fs x.toNat 0 (fun _ => 0) 0 (q8.1, 0) (fL_0 fs) (fC_0 fs) (by omega) ok0
      have e4 := sph_class fs q8.1 (K := x.toNat) (by omega)
      rw [sph_eq fs] at e4
      refine je_ps jb_X11_sphere 1 (pc' := 31) (ls' := [_, _, _]) (st' := [_]) rfl ?_
      refine je_get jb_X11_sphere rfl (pc' := 34) rfl (jh_at (a := 0) rfl) (by rfl) (by rfl) ?_
      refine je_get jb_X11_sphere rfl (pc' := 37) rfl (jh_at (a := 1) rfl) (by rfl) (by rfl) ?_
      refine je_ps jb_X11_sphere 2 (pc' := 39) (ls' := [_, _, _]) (st' := [_]) rfl ?_
      refine je_cvP' jb_X11_sphere rfl (pc' := 42) rfl (jh_at (a := 5) rfl) (by rfl) (by first | decide | exact Nat.ble_eq_true_of_le (by omega)) (k_clear (i := 12) h12 (I1.z h12)) (st' := []) rfl ?_
      refine je_ps jb_X11_sphere 4 (pc' := 46) (ls' := [_, _, _]) (st' := [_, _, _, _]) rfl ?_
      refine je_get jb_X11_sphere rfl (pc' := 49) rfl (jh_at (a := 0) rfl) (by rfl) (by rfl) ?_
      refine je_csP' jb_X11_sphere rfl (pc' := 52) rfl (by rfl) (by first | decide | exact Nat.ble_eq_true_of_le (by omega)) (k_gather (i := 12) h12 (by omega) x.toNat _ 0 _ _ _ g2 gq2 ok0 (Int.le_refl 0) (by omega)) (st' := []) rfl ?_
      refine je_ps jb_X11_sphere 1 (pc' := 53) (ls' := [_, _, _]) (st' := [_]) rfl ?_
      refine je_get jb_X11_sphere rfl (pc' := 56) rfl (jh_at (a := 0) rfl) (by rfl) (by rfl) ?_
      refine je_get jb_X11_sphere rfl (pc' := 59) rfl (jh_at (a := 41) rfl) (by rfl) (by rfl) ?_
      rw [show aSphere A x = (((gAcc (aS A) (aN A) (aK A) x.toNat (4 ^ x.toNat)).length : Int), A) from by unfold aSphere; rw [if_neg (by omega), if_neg (by omega)], (jQ39_R (jW (jR39 m (q8.1, 0)) 12 (fun _ => 0) 0) ok3.1.1 ok3.1.2).2.1, e4]
      exact je_ret jb_X11_sphere rfl (by rfl) ⟨_, _, _, rfl, rfl, I2.r39 ok3, (((kG.rfl' m).r39 _).w h12 _ _).r39 _, tG.rfl' T⟩
    · refine je_ps jb_X11_sphere 2 (pc' := 19) (ls' := [_, _, _]) (st' := [_, _]) rfl ?_
      refine je_cvP' jb_X11_sphere rfl (pc' := 22) rfl (jh_at (a := 0) rfl) (by rfl) (by first | decide | exact Nat.ble_eq_true_of_le (by omega)) (c_X11_refuse (by omega)) (st' := [_]) rfl ?_
      rw [show aSphere A x = aRef A (-6) from by unfold aSphere; rw [if_neg (by omega), if_pos (by omega)]]
      exact je_ret jb_X11_sphere rfl (by rfl) ⟨_, _, _, rfl, rfl, I.ref (by omega), kG.ref m _, tG.rfl' T⟩
  · refine je_ps jb_X11_sphere 2 (pc' := 7) (ls' := [_, _, _]) (st' := [_, _]) rfl ?_
    refine je_cvP' jb_X11_sphere rfl (pc' := 10) rfl (jh_at (a := 0) rfl) (by rfl) (by first | decide | exact Nat.ble_eq_true_of_le (by omega)) (c_X11_refuse (by omega)) (st' := [_]) rfl ?_
    rw [show aSphere A x = aRef A (-4) from by unfold aSphere; rw [if_pos (by omega)]]
    exact je_ret jb_X11_sphere rfl (by rfl) ⟨_, _, _, rfl, rfl, I.ref (by omega), kG.ref m _, tG.rfl' T⟩
def aOddsV (A : aT) (i : Nat) (y : Int) : Int := (if y = 0 then fLit (aW A i).1 else aN A) / max (fGcd (fLit (aW A i).1) (aN A)) 1
def aOdds (A : aT) (x y : Int) : Int × aT := if (0 ≤ x ∧ x < (aC A : Int)) then (if y = 0 ∨ y = 1 then (aOddsV A x.toNat y, A) else aFarL A (-2)) else aFarL A (-1)
theorem fLit_i {L : Int → Int} : 0 ≤ fLit L ∧ fLit L ≤ 25 := by
  have := fSum_b (f := fun p => if 0 < L p then 1 else 0) (B := 1) (fun p => by show 0 ≤ (if 0 < L p then (1 : Int) else 0) ∧ (if 0 < L p then (1 : Int) else 0) ≤ 1; split <;> omega) 25
  unfold fLit
  omega
theorem aOdds_i {A : aT} {i : Nat} {y : Int} (bl : 0 ≤ fLit (aW A i).1 ∧ fLit (aW A i).1 ≤ 25) (bn : 0 ≤ aN A ∧ aN A ≤ 25) : 0 ≤ aOddsV A i y ∧ aOddsV A i y ≤ 25 := by
  have b0 : 0 ≤ (if y = 0 then fLit (aW A i).1 else aN A) ∧ (if y = 0 then fLit (aW A i).1 else aN A) ≤ 25 := by
    split <;> omega
  have b1 := Int.ediv_le_self (max (fGcd (fLit (aW A i).1) (aN A)) 1) b0.1
  have b2 := Int.ediv_nonneg b0.1 (show 0 ≤ max (fGcd (fLit (aW A i).1) (aN A)) 1 by omega)
  unfold aOddsV
  omega
theorem cl_odds {A : aT} (I : iC A m r T) {x y : Int} (hx : -2147483648 ≤ x ∧ x ≤ 2147483647) (hy : -2147483648 ≤ y ∧ y ≤ 2147483647) : jq sc 12 jm_X11_odds [.ref 0, .int (jI x), .int (jI y)] (jh m r T) (cQl (aOdds A x y) m T) := by
  have c6 := I.c6
  have fs := I.fs
  have e2n : m 2 1 = aN A := I.2.1.1.2.1
  refine je_in jb_X11_odds rfl (ls := [_, _, _, _, _, _, _]) rfl ?_
  refine je_ps jb_X11_odds 1 (pc' := 1) (ls' := [_, _, _, _, _, _, _]) (st' := [_]) rfl ?_
  refine je_get jb_X11_odds rfl (pc' := 4) rfl (jh_at (a := 0) rfl) (by rfl) (by rfl) ?_
  refine je_ps jb_X11_odds 1 (pc' := 5) (ls' := [_, _, _, _, _, _, _]) (st' := [_, _]) rfl ?_
  refine je_cvP' jb_X11_odds rfl (pc' := 8) rfl (jh_at (a := 1) rfl) (by rfl) (by first | decide | exact Nat.ble_eq_true_of_le (by omega)) (k_walkAt I.c I.c6 hx) (st' := [_]) rfl ?_
  refine je_mv (fun c5 => ?_) (fun c5 => ?_)
  · skip
    refine je_ps jb_X11_odds 2 (pc' := 10) (ls' := [_, _, _, _, _, _, _]) (st' := [_]) rfl ?_
    refine je_ifnonnullN jb_X11_odds rfl (t := 19) rfl (pc' := 13) rfl ?_
    refine je_ps jb_X11_odds 2 (pc' := 15) (ls' := [_, _, _, _, _, _, _]) (st' := [_, _]) rfl ?_
    refine je_cvP' jb_X11_odds rfl (pc' := 18) rfl (jh_at (a := 0) rfl) (by rfl) (by first | decide | exact Nat.ble_eq_true_of_le (by omega)) (c_X11_refuseFarLong (by omega)) (st' := [_]) rfl ?_
    rw [show aOdds A x y = aFarL A (-1) from by unfold aOdds; rw [if_neg c5]]
    exact je_ret jb_X11_odds rfl (by rfl) ⟨_, _, _, rfl, rfl, I.ref (by omega), kG.ref m _, tG.rfl' T⟩
  · skip
    have hu : x.toNat < 13 := by omega
    have hun : x.toNat < aC A := by omega
    have gu := I.wk hun
    have ou := I.wo hun
    refine je_ps jb_X11_odds 2 (pc' := 10) (ls' := [_, _, _, _, _, _, _]) (st' := [_]) rfl ?_
    refine je_ifnonnullR jb_X11_odds rfl (t := 19) rfl (pc' := 13) rfl ?_
    refine je_ps jb_X11_odds 1 (pc' := 20) (ls' := [_, _, _, _, _, _, _]) (st' := [_]) rfl ?_
    refine je_ifeq jb_X11_odds rfl (t := 35) rfl (pc' := 23) rfl (by first | omega | exact (hM _ _).1 | exact (hM _ _).2) (by first | omega | exact (hM _ _).1 | exact (hM _ _).2) (fun c20 => ?_) (fun c20 => ?_)
    · refine je_ps jb_X11_odds 1 (pc' := 36) (ls' := [_, _, _, _, _, _, _]) (st' := [_]) rfl ?_
      refine je_cvP' jb_X11_odds rfl (pc' := 39) rfl (by first | exact jh_V hu gu | exact jh_V hu (g0.R37 hu _) | exact jh_walk hu) (by rfl) (by first | decide | exact Nat.ble_eq_true_of_le (by omega)) (k_litLamps hu gu) (st' := [_]) rfl ?_
      have bl := fLit_i (L := (aW A x.toNat).1)
      have bn := fS_n fs
      have bg := fGd_i (fLit (aW A x.toNat).1) (aN A) (max (fLit (aW A x.toNat).1) (aN A)).toNat
      have bg2 : 1 ≤ fGcd (fLit (aW A x.toNat).1) (aN A) ∧ fGcd (fLit (aW A x.toNat).1) (aN A) ≤ 25 := by unfold fGcd; omega
      refine je_ps jb_X11_odds 2 (pc' := 42) (ls' := [_, _, _, _, _, _, _]) (st' := [_]) rfl ?_
      refine je_get jb_X11_odds rfl (pc' := 45) rfl (jh_at (a := 0) rfl) (by rfl) (by rfl) ?_
      refine je_get jb_X11_odds rfl (pc' := 48) rfl (jh_at (a := 1) rfl) (by rfl) (by rfl) ?_
      refine je_get jb_X11_odds rfl (pc' := 51) rfl (jh_at (a := 2) rfl) (by rfl) (by rfl) ?_
      rw [e2n]
      refine je_ps jb_X11_odds 3 (pc' := 57) (ls' := [_, _, _, _, _, _, _]) (st' := [_, _]) rfl ?_
      refine je_csP' jb_X11_odds rfl (pc' := 60) rfl (by rfl) (by first | decide | exact Nat.ble_eq_true_of_le (by omega)) (c_X11_greatestDivisor (by omega) (by omega)) (st' := [_]) rfl ?_
      refine je_ps jb_X11_odds 2 (pc' := 63) (ls' := [_, _, _, _, _, _, _]) (st' := [_]) rfl ?_
      refine je_ifne jb_X11_odds rfl (t := 71) rfl (pc' := 66) rfl (by first | omega | exact (hM _ _).1 | exact (hM _ _).2) (by first | omega | exact (hM _ _).1 | exact (hM _ _).2) (fun c63 => ?_) (fun c63 => ?_)
      · refine je_ps jb_X11_odds 3 (pc' := 76) (ls' := [_, _, _, _, _, _, _]) (st' := [_, _, _]) rfl ?_
        refine je_max jb_X11_odds rfl (pc' := 79) rfl rfl rfl (by first | omega | exact (hM _ _).1 | exact (hM _ _).2) (by first | omega | exact (hM _ _).1 | exact (hM _ _).2) (by first | omega | exact (hM _ _).1 | exact (hM _ _).2) (by first | omega | exact (hM _ _).1 | exact (hM _ _).2) ?_
        refine je_idiv jb_X11_odds rfl (pc' := 80) rfl (by first | omega | exact (hM _ _).1 | exact (hM _ _).2) (by first | omega | exact (hM _ _).1 | exact (hM _ _).2) (by first | omega | exact (hM _ _).1 | exact (hM _ _).2) (by first | omega | exact (hM _ _).1 | exact (hM _ _).2) ?_
        have bq := aOdds_i (A := A) (i := x.toNat) (y := y) bl (by omega)
        unfold aOddsV at bq
        first | rw [if_pos (show y = 0 by omega)] at bq | rw [if_neg (show ¬ y = 0 by omega)] at bq
        refine je_i2l jb_X11_odds rfl (pc' := 81) rfl (by first | omega | exact (hM _ _).1 | exact (hM _ _).2) (by first | omega | exact (hM _ _).1 | exact (hM _ _).2) ?_
        first | (exfalso; omega) | (rw [show aOdds A x y = (aOddsV A x.toNat y, A) from by unfold aOdds; rw [if_pos c5, if_pos (by omega)]]; exact je_ret jb_X11_odds rfl (by rfl) ⟨_, _, _, by unfold aOddsV; first | rw [if_pos (show y = 0 by omega)] | rw [if_neg (show ¬ y = 0 by omega)], rfl, I, kG.rfl' m, tG.rfl' T⟩)
      · refine je_ps jb_X11_odds 4 (pc' := 76) (ls' := [_, _, _, _, _, _, _]) (st' := [_, _, _]) rfl ?_
        refine je_max jb_X11_odds rfl (pc' := 79) rfl rfl rfl (by first | omega | exact (hM _ _).1 | exact (hM _ _).2) (by first | omega | exact (hM _ _).1 | exact (hM _ _).2) (by first | omega | exact (hM _ _).1 | exact (hM _ _).2) (by first | omega | exact (hM _ _).1 | exact (hM _ _).2) ?_
        refine je_idiv jb_X11_odds rfl (pc' := 80) rfl (by first | omega | exact (hM _ _).1 | exact (hM _ _).2) (by first | omega | exact (hM _ _).1 | exact (hM _ _).2) (by first | omega | exact (hM _ _).1 | exact (hM _ _).2) (by first | omega | exact (hM _ _).1 | exact (hM _ _).2) ?_
        have bq := aOdds_i (A := A) (i := x.toNat) (y := y) bl (by omega)
        unfold aOddsV at bq
        first | rw [if_pos (show y = 0 by omega)] at bq | rw [if_neg (show ¬ y = 0 by omega)] at bq
        refine je_i2l jb_X11_odds rfl (pc' := 81) rfl (by first | omega | exact (hM _ _).1 | exact (hM _ _).2) (by first | omega | exact (hM _ _).1 | exact (hM _ _).2) ?_
        first | (exfalso; omega) | (rw [show aOdds A x y = (aOddsV A x.toNat y, A) from by unfold aOdds; rw [if_pos c5, if_pos (by omega)]]; exact je_ret jb_X11_odds rfl (by rfl) ⟨_, _, _, by unfold aOddsV; first | rw [if_pos (show y = 0 by omega)] | rw [if_neg (show ¬ y = 0 by omega)], rfl, I, kG.rfl' m, tG.rfl' T⟩)
    · refine je_ps jb_X11_odds 2 (pc' := 25) (ls' := [_, _, _, _, _, _, _]) (st' := [_, _]) rfl ?_
      refine je_icmpeq jb_X11_odds rfl (t := 35) rfl (pc' := 28) rfl (by first | omega | exact (hM _ _).1 | exact (hM _ _).2) (by first | omega | exact (hM _ _).1 | exact (hM _ _).2) (by first | omega | exact (hM _ _).1 | exact (hM _ _).2) (by first | omega | exact (hM _ _).1 | exact (hM _ _).2) (fun c25 => ?_) (fun c25 => ?_)
      · refine je_ps jb_X11_odds 1 (pc' := 36) (ls' := [_, _, _, _, _, _, _]) (st' := [_]) rfl ?_
        refine je_cvP' jb_X11_odds rfl (pc' := 39) rfl (by first | exact jh_V hu gu | exact jh_V hu (g0.R37 hu _) | exact jh_walk hu) (by rfl) (by first | decide | exact Nat.ble_eq_true_of_le (by omega)) (k_litLamps hu gu) (st' := [_]) rfl ?_
        have bl := fLit_i (L := (aW A x.toNat).1)
        have bn := fS_n fs
        have bg := fGd_i (fLit (aW A x.toNat).1) (aN A) (max (fLit (aW A x.toNat).1) (aN A)).toNat
        have bg2 : 1 ≤ fGcd (fLit (aW A x.toNat).1) (aN A) ∧ fGcd (fLit (aW A x.toNat).1) (aN A) ≤ 25 := by unfold fGcd; omega
        refine je_ps jb_X11_odds 2 (pc' := 42) (ls' := [_, _, _, _, _, _, _]) (st' := [_]) rfl ?_
        refine je_get jb_X11_odds rfl (pc' := 45) rfl (jh_at (a := 0) rfl) (by rfl) (by rfl) ?_
        refine je_get jb_X11_odds rfl (pc' := 48) rfl (jh_at (a := 1) rfl) (by rfl) (by rfl) ?_
        refine je_get jb_X11_odds rfl (pc' := 51) rfl (jh_at (a := 2) rfl) (by rfl) (by rfl) ?_
        rw [e2n]
        refine je_ps jb_X11_odds 3 (pc' := 57) (ls' := [_, _, _, _, _, _, _]) (st' := [_, _]) rfl ?_
        refine je_csP' jb_X11_odds rfl (pc' := 60) rfl (by rfl) (by first | decide | exact Nat.ble_eq_true_of_le (by omega)) (c_X11_greatestDivisor (by omega) (by omega)) (st' := [_]) rfl ?_
        refine je_ps jb_X11_odds 2 (pc' := 63) (ls' := [_, _, _, _, _, _, _]) (st' := [_]) rfl ?_
        refine je_ifne jb_X11_odds rfl (t := 71) rfl (pc' := 66) rfl (by first | omega | exact (hM _ _).1 | exact (hM _ _).2) (by first | omega | exact (hM _ _).1 | exact (hM _ _).2) (fun c63 => ?_) (fun c63 => ?_)
        · refine je_ps jb_X11_odds 3 (pc' := 76) (ls' := [_, _, _, _, _, _, _]) (st' := [_, _, _]) rfl ?_
          refine je_max jb_X11_odds rfl (pc' := 79) rfl rfl rfl (by first | omega | exact (hM _ _).1 | exact (hM _ _).2) (by first | omega | exact (hM _ _).1 | exact (hM _ _).2) (by first | omega | exact (hM _ _).1 | exact (hM _ _).2) (by first | omega | exact (hM _ _).1 | exact (hM _ _).2) ?_
          refine je_idiv jb_X11_odds rfl (pc' := 80) rfl (by first | omega | exact (hM _ _).1 | exact (hM _ _).2) (by first | omega | exact (hM _ _).1 | exact (hM _ _).2) (by first | omega | exact (hM _ _).1 | exact (hM _ _).2) (by first | omega | exact (hM _ _).1 | exact (hM _ _).2) ?_
          have bq := aOdds_i (A := A) (i := x.toNat) (y := y) bl (by omega)
          unfold aOddsV at bq
          first | rw [if_pos (show y = 0 by omega)] at bq | rw [if_neg (show ¬ y = 0 by omega)] at bq
          refine je_i2l jb_X11_odds rfl (pc' := 81) rfl (by first | omega | exact (hM _ _).1 | exact (hM _ _).2) (by first | omega | exact (hM _ _).1 | exact (hM _ _).2) ?_
          first | (exfalso; omega) | (rw [show aOdds A x y = (aOddsV A x.toNat y, A) from by unfold aOdds; rw [if_pos c5, if_pos (by omega)]]; exact je_ret jb_X11_odds rfl (by rfl) ⟨_, _, _, by unfold aOddsV; first | rw [if_pos (show y = 0 by omega)] | rw [if_neg (show ¬ y = 0 by omega)], rfl, I, kG.rfl' m, tG.rfl' T⟩)
        · refine je_ps jb_X11_odds 4 (pc' := 76) (ls' := [_, _, _, _, _, _, _]) (st' := [_, _, _]) rfl ?_
          refine je_max jb_X11_odds rfl (pc' := 79) rfl rfl rfl (by first | omega | exact (hM _ _).1 | exact (hM _ _).2) (by first | omega | exact (hM _ _).1 | exact (hM _ _).2) (by first | omega | exact (hM _ _).1 | exact (hM _ _).2) (by first | omega | exact (hM _ _).1 | exact (hM _ _).2) ?_
          refine je_idiv jb_X11_odds rfl (pc' := 80) rfl (by first | omega | exact (hM _ _).1 | exact (hM _ _).2) (by first | omega | exact (hM _ _).1 | exact (hM _ _).2) (by first | omega | exact (hM _ _).1 | exact (hM _ _).2) (by first | omega | exact (hM _ _).1 | exact (hM _ _).2) ?_
          have bq := aOdds_i (A := A) (i := x.toNat) (y := y) bl (by omega)
          unfold aOddsV at bq
          first | rw [if_pos (show y = 0 by omega)] at bq | rw [if_neg (show ¬ y = 0 by omega)] at bq
          refine je_i2l jb_X11_odds rfl (pc' := 81) rfl (by first | omega | exact (hM _ _).1 | exact (hM _ _).2) (by first | omega | exact (hM _ _).1 | exact (hM _ _).2) ?_
          first | (exfalso; omega) | (rw [show aOdds A x y = (aOddsV A x.toNat y, A) from by unfold aOdds; rw [if_pos c5, if_pos (by omega)]]; exact je_ret jb_X11_odds rfl (by rfl) ⟨_, _, _, by unfold aOddsV; first | rw [if_pos (show y = 0 by omega)] | rw [if_neg (show ¬ y = 0 by omega)], rfl, I, kG.rfl' m, tG.rfl' T⟩)
      · refine je_ps jb_X11_odds 2 (pc' := 31) (ls' := [_, _, _, _, _, _, _]) (st' := [_, _]) rfl ?_
        refine je_cvP' jb_X11_odds rfl (pc' := 34) rfl (jh_at (a := 0) rfl) (by rfl) (by first | decide | exact Nat.ble_eq_true_of_le (by omega)) (c_X11_refuseFarLong (by omega)) (st' := [_]) rfl ?_
        rw [show aOdds A x y = aFarL A (-2) from by unfold aOdds; rw [if_pos c5, if_neg (by omega)]]
        exact je_ret jb_X11_odds rfl (by rfl) ⟨_, _, _, rfl, rfl, I.ref (by omega), kG.ref m _, tG.rfl' T⟩
def aStep (A : aT) (x y : Int) : Int × aT := if (0 ≤ x ∧ x < (aC A : Int)) then (if 0 ≤ y ∧ y < 4 then (if (fGo (aS A) (aN A) (aK A) (aW A x.toNat).1 (aW A x.toNat).2 y).1 = true then (fLen (aS A) (aN A) (aK A) (fGo (aS A) (aN A) (aK A) (aW A x.toNat).1 (aW A x.toNat).2 y).2.1 (fGo (aS A) (aN A) (aK A) (aW A x.toNat).1 (aW A x.toNat).2 y).2.2, sWk A x.toNat (fGo (aS A) (aN A) (aK A) (aW A x.toNat).1 (aW A x.toNat).2 y).2) else aRef A (-6)) else aRef A (-2)) else aRef A (-1)
theorem cl_step {A : aT} (I : iC A m r T) {x y : Int} (hx : -2147483648 ≤ x ∧ x ≤ 2147483647) (hy : -2147483648 ≤ y ∧ y ≤ 2147483647) : jq sc 12 jm_X11_step [.ref 0, .int (jI x), .int (jI y)] (jh m r T) (cQ (aStep A x y) m T) := by
  have c6 := I.c6
  have fs := I.fs
  refine je_in jb_X11_step rfl (ls := [_, _, _, _]) rfl ?_
  refine je_ps jb_X11_step 1 (pc' := 1) (ls' := [_, _, _, _]) (st' := [_]) rfl ?_
  refine je_get jb_X11_step rfl (pc' := 4) rfl (jh_at (a := 0) rfl) (by rfl) (by rfl) ?_
  refine je_ps jb_X11_step 1 (pc' := 5) (ls' := [_, _, _, _]) (st' := [_, _]) rfl ?_
  refine je_cvP' jb_X11_step rfl (pc' := 8) rfl (jh_at (a := 1) rfl) (by rfl) (by first | decide | exact Nat.ble_eq_true_of_le (by omega)) (k_walkAt I.c I.c6 hx) (st' := [_]) rfl ?_
  refine je_mv (fun c5 => ?_) (fun c5 => ?_)
  · skip
    refine je_ps jb_X11_step 2 (pc' := 10) (ls' := [_, _, _, _]) (st' := [_]) rfl ?_
    refine je_ifnonnullN jb_X11_step rfl (t := 19) rfl (pc' := 13) rfl ?_
    refine je_ps jb_X11_step 2 (pc' := 15) (ls' := [_, _, _, _]) (st' := [_, _]) rfl ?_
    refine je_cvP' jb_X11_step rfl (pc' := 18) rfl (jh_at (a := 0) rfl) (by rfl) (by first | decide | exact Nat.ble_eq_true_of_le (by omega)) (c_X11_refuse (by omega)) (st' := [_]) rfl ?_
    rw [show aStep A x y = aRef A (-1) from by unfold aStep; rw [if_neg c5]]
    exact je_ret jb_X11_step rfl (by rfl) ⟨_, _, _, rfl, rfl, I.ref (by omega), kG.ref m _, tG.rfl' T⟩
  · skip
    have hu : x.toNat < 13 := by omega
    have hun : x.toNat < aC A := by omega
    have gu := I.wk hun
    have ou := I.wo hun
    refine je_ps jb_X11_step 2 (pc' := 10) (ls' := [_, _, _, _]) (st' := [_]) rfl ?_
    refine je_ifnonnullR jb_X11_step rfl (t := 19) rfl (pc' := 13) rfl ?_
    refine je_ps jb_X11_step 1 (pc' := 20) (ls' := [_, _, _, _]) (st' := [_]) rfl ?_
    refine je_iflt jb_X11_step rfl (t := 28) rfl (pc' := 23) rfl (by first | omega | exact (hM _ _).1 | exact (hM _ _).2) (by first | omega | exact (hM _ _).1 | exact (hM _ _).2) (fun c20 => ?_) (fun c20 => ?_)
    · refine je_ps jb_X11_step 2 (pc' := 31) (ls' := [_, _, _, _]) (st' := [_, _]) rfl ?_
      refine je_cvP' jb_X11_step rfl (pc' := 34) rfl (jh_at (a := 0) rfl) (by rfl) (by first | decide | exact Nat.ble_eq_true_of_le (by omega)) (c_X11_refuse (by omega)) (st' := [_]) rfl ?_
      rw [show aStep A x y = aRef A (-2) from by unfold aStep; rw [if_pos c5, if_neg (by omega)]]
      exact je_ret jb_X11_step rfl (by rfl) ⟨_, _, _, rfl, rfl, I.ref (by omega), kG.ref m _, tG.rfl' T⟩
    · refine je_ps jb_X11_step 2 (pc' := 25) (ls' := [_, _, _, _]) (st' := [_, _]) rfl ?_
      refine je_icmplt jb_X11_step rfl (t := 35) rfl (pc' := 28) rfl (by first | omega | exact (hM _ _).1 | exact (hM _ _).2) (by first | omega | exact (hM _ _).1 | exact (hM _ _).2) (by first | omega | exact (hM _ _).1 | exact (hM _ _).2) (by first | omega | exact (hM _ _).1 | exact (hM _ _).2) (fun c25 => ?_) (fun c25 => ?_)
      · refine je_ps jb_X11_step 2 (pc' := 37) (ls' := [_, _, _, _]) (st' := [_, _]) rfl ?_
        refine je_cvP' jb_X11_step rfl (pc' := 40) rfl (by first | exact jh_V hu gu | exact jh_V hu (g0.R37 hu _) | exact jh_walk hu) (by rfl) (by first | decide | exact Nat.ble_eq_true_of_le (by omega)) (k_goOn hu gu hy) (st' := [_]) rfl ?_
        refine je_ifeqb jb_X11_step rfl (t := 50) rfl (pc' := 43) rfl (fun c40 => ?_) (fun c40 => ?_)
        · refine je_ps jb_X11_step 2 (pc' := 53) (ls' := [_, _, _, _]) (st' := [_, _]) rfl ?_
          refine je_cvP' jb_X11_step rfl (pc' := 56) rfl (jh_at (a := 0) rfl) (by rfl) (by first | decide | exact Nat.ble_eq_true_of_le (by omega)) (c_X11_refuse (by omega)) (st' := [_]) rfl ?_
          first | (rw [fGo_no c40, jW_self hu gu]; rw [show aStep A x y = aRef A (-6) from by unfold aStep; rw [if_pos c5, if_pos (by omega), if_neg (by rw [c40]; decide)]]; exact je_ret jb_X11_step rfl (by rfl) ⟨_, _, _, rfl, rfl, I.ref (by omega), kG.ref m _, tG.rfl' T⟩) | (rw [show aStep A x y = (fLen (aS A) (aN A) (aK A) (fGo (aS A) (aN A) (aK A) (aW A x.toNat).1 (aW A x.toNat).2 y).2.1 (fGo (aS A) (aN A) (aK A) (aW A x.toNat).1 (aW A x.toNat).2 y).2.2, sWk A x.toNat (fGo (aS A) (aN A) (aK A) (aW A x.toNat).1 (aW A x.toNat).2 y).2) from by unfold aStep; rw [if_pos c5, if_pos (by omega), if_pos c40]]; exact je_ret jb_X11_step rfl (by rfl) ⟨_, _, _, rfl, rfl, I.set hun og, (kG.rfl' m).w hu _ _, tG.rfl' T⟩)
        · have og : wOkk (aS A) (aN A) (aK A) (fGo (aS A) (aN A) (aK A) (aW A x.toNat).1 (aW A x.toNat).2 y).2 := ou.go fs
          have gg := jWk.w (m := m) gu.1 hu og.1 og.2.1
          refine je_ps jb_X11_step 1 (pc' := 44) (ls' := [_, _, _, _]) (st' := [_]) rfl ?_
          refine je_cvP' jb_X11_step rfl (pc' := 47) rfl (by first | exact jh_V hu gu | exact jh_V hu (g0.R37 hu _) | exact jh_walk hu) (by rfl) (by first | decide | exact Nat.ble_eq_true_of_le (by omega)) (k_length hu gg) (st' := [_]) rfl ?_
          refine je_ps jb_X11_step 1 (pc' := 56) (ls' := [_, _, _, _]) (st' := [_]) rfl ?_
          first | (rw [fGo_no c40, jW_self hu gu]; rw [show aStep A x y = aRef A (-6) from by unfold aStep; rw [if_pos c5, if_pos (by omega), if_neg (by rw [c40]; decide)]]; exact je_ret jb_X11_step rfl (by rfl) ⟨_, _, _, rfl, rfl, I.ref (by omega), kG.ref m _, tG.rfl' T⟩) | (rw [show aStep A x y = (fLen (aS A) (aN A) (aK A) (fGo (aS A) (aN A) (aK A) (aW A x.toNat).1 (aW A x.toNat).2 y).2.1 (fGo (aS A) (aN A) (aK A) (aW A x.toNat).1 (aW A x.toNat).2 y).2.2, sWk A x.toNat (fGo (aS A) (aN A) (aK A) (aW A x.toNat).1 (aW A x.toNat).2 y).2) from by unfold aStep; rw [if_pos c5, if_pos (by omega), if_pos c40]]; exact je_ret jb_X11_step rfl (by rfl) ⟨_, _, _, rfl, rfl, I.set hun og, (kG.rfl' m).w hu _ _, tG.rfl' T⟩)
      · refine je_ps jb_X11_step 2 (pc' := 31) (ls' := [_, _, _, _]) (st' := [_, _]) rfl ?_
        refine je_cvP' jb_X11_step rfl (pc' := 34) rfl (jh_at (a := 0) rfl) (by rfl) (by first | decide | exact Nat.ble_eq_true_of_le (by omega)) (c_X11_refuse (by omega)) (st' := [_]) rfl ?_
        rw [show aStep A x y = aRef A (-2) from by unfold aStep; rw [if_pos c5, if_neg (by omega)]]
        exact je_ret jb_X11_step rfl (by rfl) ⟨_, _, _, rfl, rfl, I.ref (by omega), kG.ref m _, tG.rfl' T⟩
/-- draws one behind another: the seed, the walk -/
def lw (s n k z : Int) : Nat → Int × wT
  | 0 => (z, (fun _ => 0, 0))
  | j + 1 => (fSeed (lw s n k z j).1, (fGo s n k (lw s n k z j).2.1 (lw s n k z j).2.2 (fDrawn (fSeed (lw s n k z j).1))).2)
theorem lw_ok {s n k z : Int} (h : fS s n k) : ∀ j, wOkk s n k (lw s n k z j).2
  | 0 => wOkk.bare h
  | j + 1 => (lw_ok h j).go h
def lDead (s n k : Int) (w : wT) : Bool := !fGrow s n k (fLen s n k w.1 w.2) 1 w.1 w.2
/-- lots: the seed, LENGTHS, dead ones -/
def lt (s n k z : Int) (K : Nat) : Nat → Int × Int × Int
  | 0 => (z, 0, 0)
  | i + 1 => ((lw s n k (lt s n k z K i).1 K).1, (lt s n k z K i).2.1 + fLen s n k (lw s n k (lt s n k z K i).1 K).2.1 (lw s n k (lt s n k z K i).1 K).2.2, (lt s n k z K i).2.2 + jb (lDead s n k (lw s n k (lt s n k z K i).1 K).2))
theorem fDrawn_i (z : Int) : 0 ≤ fDrawn z ∧ fDrawn z ≤ 3 := by
  unfold fDrawn
  omega
def aLots (A : aT) (x y z w : Int) : Int × aT := if x < 1 ∨ y < 1 then aRef A (-4) else if 30 < x ∨ 12 < y then aRef A (-6) else if w ≠ 0 ∧ w ≠ 1 then aRef A (-2) else ((if w = 0 then (lt (aS A) (aN A) (aK A) z y.toNat x.toNat).2.1 else (lt (aS A) (aN A) (aK A) z y.toNat x.toNat).2.2), A)
theorem cl_lots {A : aT} (I : iC A m r T) {x y z w : Int} (hx : -2147483648 ≤ x ∧ x ≤ 2147483647) (hy : -2147483648 ≤ y ∧ y ≤ 2147483647) (hz : -2147483648 ≤ z ∧ z ≤ 2147483647) (hw : -2147483648 ≤ w ∧ w ≤ 2147483647) : jq sc 14 jm_X11_lots [.ref 0, .int (jI x), .int (jI y), .int (jI z), .int (jI w)] (jh m r T) (cQ (aLots A x y z w) m T) := by
  have c6 := I.c6
  have fs := I.fs
  have h12 : (12 : Nat) < 13 := by decide
  refine je_in jb_X11_lots rfl (ls := [_, _, _, _, _, _, _, _, _, _, _]) rfl ?_
  refine je_ps jb_X11_lots 2 (pc' := 2) (ls' := [_, _, _, _, _, _, _, _, _, _, _]) (st' := [_, _]) rfl ?_
  refine je_icmplt jb_X11_lots rfl (t := 10) rfl (pc' := 5) rfl (by first | omega | exact (hM _ _).1 | exact (hM _ _).2) (by first | omega | exact (hM _ _).1 | exact (hM _ _).2) (by first | omega | exact (hM _ _).1 | exact (hM _ _).2) (by first | omega | exact (hM _ _).1 | exact (hM _ _).2) (fun c2 => ?_) (fun c2 => ?_)
  · refine je_ps jb_X11_lots 2 (pc' := 13) (ls' := [_, _, _, _, _, _, _, _, _, _, _]) (st' := [_, _]) rfl ?_
    refine je_cvP' jb_X11_lots rfl (pc' := 16) rfl (jh_at (a := 0) rfl) (by rfl) (by first | decide | exact Nat.ble_eq_true_of_le (by omega)) (c_X11_refuse (by omega)) (st' := [_]) rfl ?_
    rw [show aLots A x y z w = aRef A (-4) from by unfold aLots; rw [if_pos (by omega)]]
    exact je_ret jb_X11_lots rfl (by rfl) ⟨_, _, _, rfl, rfl, I.ref (by omega), kG.ref m _, tG.rfl' T⟩
  · refine je_ps jb_X11_lots 2 (pc' := 7) (ls' := [_, _, _, _, _, _, _, _, _, _, _]) (st' := [_, _]) rfl ?_
    refine je_icmpge jb_X11_lots rfl (t := 17) rfl (pc' := 10) rfl (by first | omega | exact (hM _ _).1 | exact (hM _ _).2) (by first | omega | exact (hM _ _).1 | exact (hM _ _).2) (by first | omega | exact (hM _ _).1 | exact (hM _ _).2) (by first | omega | exact (hM _ _).1 | exact (hM _ _).2) (fun c7 => ?_) (fun c7 => ?_)
    · refine je_ps jb_X11_lots 2 (pc' := 20) (ls' := [_, _, _, _, _, _, _, _, _, _, _]) (st' := [_, _]) rfl ?_
      refine je_icmpgt jb_X11_lots rfl (t := 29) rfl (pc' := 23) rfl (by first | omega | exact (hM _ _).1 | exact (hM _ _).2) (by first | omega | exact (hM _ _).1 | exact (hM _ _).2) (by first | omega | exact (hM _ _).1 | exact (hM _ _).2) (by first | omega | exact (hM _ _).1 | exact (hM _ _).2) (fun c20 => ?_) (fun c20 => ?_)
      · refine je_ps jb_X11_lots 2 (pc' := 32) (ls' := [_, _, _, _, _, _, _, _, _, _, _]) (st' := [_, _]) rfl ?_
        refine je_cvP' jb_X11_lots rfl (pc' := 35) rfl (jh_at (a := 0) rfl) (by rfl) (by first | decide | exact Nat.ble_eq_true_of_le (by omega)) (c_X11_refuse (by omega)) (st' := [_]) rfl ?_
        rw [show aLots A x y z w = aRef A (-6) from by unfold aLots; rw [if_neg (by omega), if_pos (by omega)]]
        exact je_ret jb_X11_lots rfl (by rfl) ⟨_, _, _, rfl, rfl, I.ref (by omega), kG.ref m _, tG.rfl' T⟩
      · refine je_ps jb_X11_lots 2 (pc' := 26) (ls' := [_, _, _, _, _, _, _, _, _, _, _]) (st' := [_, _]) rfl ?_
        refine je_icmple jb_X11_lots rfl (t := 36) rfl (pc' := 29) rfl (by first | omega | exact (hM _ _).1 | exact (hM _ _).2) (by first | omega | exact (hM _ _).1 | exact (hM _ _).2) (by first | omega | exact (hM _ _).1 | exact (hM _ _).2) (by first | omega | exact (hM _ _).1 | exact (hM _ _).2) (fun c26 => ?_) (fun c26 => ?_)
        · refine je_ps jb_X11_lots 1 (pc' := 38) (ls' := [_, _, _, _, _, _, _, _, _, _, _]) (st' := [_]) rfl ?_
          refine je_ifeq jb_X11_lots rfl (t := 54) rfl (pc' := 41) rfl (by first | omega | exact (hM _ _).1 | exact (hM _ _).2) (by first | omega | exact (hM _ _).1 | exact (hM _ _).2) (fun c38 => ?_) (fun c38 => ?_)
          · refine je_ps jb_X11_lots 1 (pc' := 55) (ls' := [_, _, _, _, _, _, _, _, _, _, _]) (st' := [_]) rfl ?_
            refine je_get jb_X11_lots rfl (pc' := 58) rfl (jh_at (a := 0) rfl) (by rfl) (by rfl) ?_
            refine je_get jb_X11_lots rfl (pc' := 61) rfl (jh_at (a := 1) rfl) (by rfl) (by rfl) ?_
            refine je_ps jb_X11_lots 9 (pc' := 75) (ls' := [_, _, _, _, _, _, _, _, _, _, _]) (st' := []) rfl ?_
            refine je_loop (fun (v : Nat) ls σ' => ∃ m1 xx, ls = [.ref 0, .int (jI x), .int (jI y), .int (jI z), .int (jI w), .ref 5, .int (jI (lt (aS A) (aN A) (aK A) z y.toNat v).1), .int (jI (lt (aS A) (aN A) (aK A) z y.toNat v).2.1), .int (jI (lt (aS A) (aN A) (aK A) z y.toNat v).2.2), .int (jI v), xx] ∧ σ' = jh m1 r T ∧ iC A m1 r T ∧ kG m m1) (x.toNat) ⟨_, _, rfl, rfl, I, kG.rfl' m⟩ (fun v hv ls σ' gv kv => ?_) (fun ls σ' gv => ?_)
            · obtain ⟨m1, xx, rfl, rfl, ⟨J, fk⟩⟩ := gv
              refine je_ps jb_X11_lots 2 (pc' := 78) (ls' := [_, _, _, _, _, _, _, _, _, _, _]) (st' := [_, _]) rfl ?_
              refine je_icmpge jb_X11_lots rfl (t := 154) rfl (pc' := 81) rfl (by first | omega | exact (hM _ _).1 | exact (hM _ _).2) (by first | omega | exact (hM _ _).1 | exact (hM _ _).2) (by first | omega | exact (hM _ _).1 | exact (hM _ _).2) (by first | omega | exact (hM _ _).1 | exact (hM _ _).2) (fun c78 => ?_) (fun c78 => ?_)
              · first | (exfalso; omega) | (cases c78; done) | (exfalso; simp_all; done)
              · refine je_ps jb_X11_lots 1 (pc' := 83) (ls' := [_, _, _, _, _, _, _, _, _, _, _]) (st' := [_]) rfl ?_
                refine je_cvP' jb_X11_lots rfl (pc' := 86) rfl (jh_at (a := 5) rfl) (by rfl) (by first | decide | exact Nat.ble_eq_true_of_le (by omega)) (k_clear (i := 12) h12 (J.z h12)) (st' := []) rfl ?_
                refine je_ps jb_X11_lots 2 (pc' := 89) (ls' := [_, _, _, _, _, _, _, _, _, _, _]) (st' := []) rfl ?_
                refine je_loop (fun (j : Nat) ls σ' => ls = [.ref 0, .int (jI x), .int (jI y), .int (jI z), .int (jI w), .ref 5, .int (jI (lw (aS A) (aN A) (aK A) (lt (aS A) (aN A) (aK A) z y.toNat v).1 j).1), .int (jI (lt (aS A) (aN A) (aK A) z y.toNat v).2.1), .int (jI (lt (aS A) (aN A) (aK A) z y.toNat v).2.2), .int (jI v), .int (jI j)] ∧ σ' = jh (jW m1 12 (lw (aS A) (aN A) (aK A) (lt (aS A) (aN A) (aK A) z y.toNat v).1 j).2.1 (lw (aS A) (aN A) (aK A) (lt (aS A) (aN A) (aK A) z y.toNat v).1 j).2.2) r T) (y.toNat) ⟨rfl, rfl⟩ (fun j hj ls σ' gj kj => ?_) (fun ls σ' gj => ?_)
                · obtain ⟨rfl, rfl⟩ := gj
                  have oj := lw_ok (z := (lt (aS A) (aN A) (aK A) z y.toNat v).1) fs j
                  have gj := jWk.w (m := m1) (i := 12) (J.str (i := 12) (by decide)) h12 oj.1 oj.2.1
                  have dz := fDrawn_i (fSeed (lw (aS A) (aN A) (aK A) (lt (aS A) (aN A) (aK A) z y.toNat v).1 j).1)
                  refine je_ps jb_X11_lots 2 (pc' := 92) (ls' := [_, _, _, _, _, _, _, _, _, _, _]) (st' := [_, _]) rfl ?_
                  refine je_icmpge jb_X11_lots rfl (t := 120) rfl (pc' := 95) rfl (by first | omega | exact (hM _ _).1 | exact (hM _ _).2) (by first | omega | exact (hM _ _).1 | exact (hM _ _).2) (by first | omega | exact (hM _ _).1 | exact (hM _ _).2) (by first | omega | exact (hM _ _).1 | exact (hM _ _).2) (fun c92 => ?_) (fun c92 => ?_)
                  · first | (exfalso; omega) | (cases c92; done) | (exfalso; simp_all; done)
                  · refine je_ps jb_X11_lots 1 (pc' := 97) (ls' := [_, _, _, _, _, _, _, _, _, _, _]) (st' := [_]) rfl ?_
                    refine je_csP' jb_X11_lots rfl (pc' := 100) rfl (by rfl) (by first | decide | exact Nat.ble_eq_true_of_le (by omega)) (c_X11_nextSeed) (st' := [_]) rfl ?_
                    refine je_ps jb_X11_lots 4 (pc' := 107) (ls' := [_, _, _, _, _, _, _, _, _, _, _]) (st' := [_, _, _]) rfl ?_
                    refine je_csP' jb_X11_lots rfl (pc' := 110) rfl (by rfl) (by first | decide | exact Nat.ble_eq_true_of_le (by omega)) (c_X11_drawn rfl) (st' := [_, _]) rfl ?_
                    refine je_cvP' jb_X11_lots rfl (pc' := 113) rfl (jh_at (a := 5) rfl) (by rfl) (by first | decide | exact Nat.ble_eq_true_of_le (by omega)) (k_goOn (i := 12) h12 gj (by omega)) (st' := [_]) rfl ?_
                    refine je_ps jb_X11_lots 1 (pc' := 114) (ls' := [_, _, _, _, _, _, _, _, _, _, _]) (st' := []) rfl ?_
                    refine je_iinc jb_X11_lots rfl (pc' := 117) rfl rfl (ls' := [_, _, _, _, _, _, _, _, _, _, _]) rfl ?_
                    refine je_ps jb_X11_lots 1 (pc' := 89) (ls' := [_, _, _, _, _, _, _, _, _, _, _]) (st' := []) rfl ?_
                    refine kj _ _ ⟨rfl, jh_eq ?_⟩
                    rw [jW_W h12]
                    rfl
                · obtain ⟨rfl, rfl⟩ := gj
                  have oj := lw_ok (z := (lt (aS A) (aN A) (aK A) z y.toNat v).1) fs y.toNat
                  have gj := jWk.w (m := m1) (i := 12) (J.str (i := 12) (by decide)) h12 oj.1 oj.2.1
                  refine je_ps jb_X11_lots 2 (pc' := 92) (ls' := [_, _, _, _, _, _, _, _, _, _, _]) (st' := [_, _]) rfl ?_
                  refine je_icmpge jb_X11_lots rfl (t := 120) rfl (pc' := 95) rfl (by first | omega | exact (hM _ _).1 | exact (hM _ _).2) (by first | omega | exact (hM _ _).1 | exact (hM _ _).2) (by first | omega | exact (hM _ _).1 | exact (hM _ _).2) (by first | omega | exact (hM _ _).1 | exact (hM _ _).2) (fun c92 => ?_) (fun c92 => ?_)
                  · refine je_ps jb_X11_lots 2 (pc' := 124) (ls' := [_, _, _, _, _, _, _, _, _, _, _]) (st' := [_, _]) rfl ?_
                    refine je_cvP' jb_X11_lots rfl (pc' := 127) rfl (jh_at (a := 5) rfl) (by rfl) (by first | decide | exact Nat.ble_eq_true_of_le (by omega)) (k_length (i := 12) h12 gj) (st' := [_, _]) rfl ?_
                    refine je_iadd jb_X11_lots rfl (pc' := 128) rfl ?_
                    refine je_ps jb_X11_lots 3 (pc' := 134) (ls' := [_, _, _, _, _, _, _, _, _, _, _]) (st' := [_, _]) rfl ?_
                    refine je_cvP' jb_X11_lots rfl (pc' := 137) rfl (jh_at (a := 5) rfl) (by rfl) (by first | decide | exact Nat.ble_eq_true_of_le (by omega)) (k_isDead (i := 12) h12 gj) (st' := [_, _]) rfl ?_
                    refine je_ifeqb jb_X11_lots rfl (t := 144) rfl (pc' := 140) rfl (fun c137 => ?_) (fun c137 => ?_)
                    · refine je_ps jb_X11_lots 1 (pc' := 145) (ls' := [_, _, _, _, _, _, _, _, _, _, _]) (st' := [_, _]) rfl ?_
                      refine je_iadd jb_X11_lots rfl (pc' := 146) rfl ?_
                      refine je_ps jb_X11_lots 1 (pc' := 148) (ls' := [_, _, _, _, _, _, _, _, _, _, _]) (st' := []) rfl ?_
                      refine je_iinc jb_X11_lots rfl (pc' := 151) rfl rfl (ls' := [_, _, _, _, _, _, _, _, _, _, _]) rfl ?_
                      refine je_ps jb_X11_lots 1 (pc' := 75) (ls' := [_, _, _, _, _, _, _, _, _, _, _]) (st' := []) rfl ?_
                      have elt : lt (aS A) (aN A) (aK A) z y.toNat (v + 1) = ((lw (aS A) (aN A) (aK A) (lt (aS A) (aN A) (aK A) z y.toNat v).1 y.toNat).1, (lt (aS A) (aN A) (aK A) z y.toNat v).2.1 + fLen (aS A) (aN A) (aK A) (lw (aS A) (aN A) (aK A) (lt (aS A) (aN A) (aK A) z y.toNat v).1 y.toNat).2.1 (lw (aS A) (aN A) (aK A) (lt (aS A) (aN A) (aK A) z y.toNat v).1 y.toNat).2.2, (lt (aS A) (aN A) (aK A) z y.toNat v).2.2 + jb (lDead (aS A) (aN A) (aK A) (lw (aS A) (aN A) (aK A) (lt (aS A) (aN A) (aK A) z y.toNat v).1 y.toNat).2)) := rfl
                      first | rw [elt, show lDead (aS A) (aN A) (aK A) (lw (aS A) (aN A) (aK A) (lt (aS A) (aN A) (aK A) z y.toNat v).1 y.toNat).2 = true from c137] at kv | rw [elt, show lDead (aS A) (aN A) (aK A) (lw (aS A) (aN A) (aK A) (lt (aS A) (aN A) (aK A) z y.toNat v).1 y.toNat).2 = false from c137] at kv
                      exact kv _ _ ⟨_, _, rfl, rfl, J.junk (Or.inr rfl) oj.2.2, fk.w h12 _ _⟩
                    · refine je_ps jb_X11_lots 2 (pc' := 145) (ls' := [_, _, _, _, _, _, _, _, _, _, _]) (st' := [_, _]) rfl ?_
                      refine je_iadd jb_X11_lots rfl (pc' := 146) rfl ?_
                      refine je_ps jb_X11_lots 1 (pc' := 148) (ls' := [_, _, _, _, _, _, _, _, _, _, _]) (st' := []) rfl ?_
                      refine je_iinc jb_X11_lots rfl (pc' := 151) rfl rfl (ls' := [_, _, _, _, _, _, _, _, _, _, _]) rfl ?_
                      refine je_ps jb_X11_lots 1 (pc' := 75) (ls' := [_, _, _, _, _, _, _, _, _, _, _]) (st' := []) rfl ?_
                      have elt : lt (aS A) (aN A) (aK A) z y.toNat (v + 1) = ((lw (aS A) (aN A) (aK A) (lt (aS A) (aN A) (aK A) z y.toNat v).1 y.toNat).1, (lt (aS A) (aN A) (aK A) z y.toNat v).2.1 + fLen (aS A) (aN A) (aK A) (lw (aS A) (aN A) (aK A) (lt (aS A) (aN A) (aK A) z y.toNat v).1 y.toNat).2.1 (lw (aS A) (aN A) (aK A) (lt (aS A) (aN A) (aK A) z y.toNat v).1 y.toNat).2.2, (lt (aS A) (aN A) (aK A) z y.toNat v).2.2 + jb (lDead (aS A) (aN A) (aK A) (lw (aS A) (aN A) (aK A) (lt (aS A) (aN A) (aK A) z y.toNat v).1 y.toNat).2)) := rfl
                      first | rw [elt, show lDead (aS A) (aN A) (aK A) (lw (aS A) (aN A) (aK A) (lt (aS A) (aN A) (aK A) z y.toNat v).1 y.toNat).2 = true from c137] at kv | rw [elt, show lDead (aS A) (aN A) (aK A) (lw (aS A) (aN A) (aK A) (lt (aS A) (aN A) (aK A) z y.toNat v).1 y.toNat).2 = false from c137] at kv
                      exact kv _ _ ⟨_, _, rfl, rfl, J.junk (Or.inr rfl) oj.2.2, fk.w h12 _ _⟩
                  · first | (exfalso; omega) | (cases c92; done) | (exfalso; simp_all; done)
            · obtain ⟨m1, xx, rfl, rfl, ⟨J, fk⟩⟩ := gv
              refine je_ps jb_X11_lots 2 (pc' := 78) (ls' := [_, _, _, _, _, _, _, _, _, _, _]) (st' := [_, _]) rfl ?_
              refine je_icmpge jb_X11_lots rfl (t := 154) rfl (pc' := 81) rfl (by first | omega | exact (hM _ _).1 | exact (hM _ _).2) (by first | omega | exact (hM _ _).1 | exact (hM _ _).2) (by first | omega | exact (hM _ _).1 | exact (hM _ _).2) (by first | omega | exact (hM _ _).1 | exact (hM _ _).2) (fun c78 => ?_) (fun c78 => ?_)
              · refine je_ps jb_X11_lots 1 (pc' := 156) (ls' := [_, _, _, _, _, _, _, _, _, _, _]) (st' := [_]) rfl ?_
                refine je_ifne jb_X11_lots rfl (t := 164) rfl (pc' := 159) rfl (by first | omega | exact (hM _ _).1 | exact (hM _ _).2) (by first | omega | exact (hM _ _).1 | exact (hM _ _).2) (fun c156 => ?_) (fun c156 => ?_)
                · refine je_ps jb_X11_lots 1 (pc' := 166) (ls' := [_, _, _, _, _, _, _, _, _, _, _]) (st' := [_]) rfl ?_
                  rw [show aLots A x y z w = ((if w = 0 then (lt (aS A) (aN A) (aK A) z y.toNat x.toNat).2.1 else (lt (aS A) (aN A) (aK A) z y.toNat x.toNat).2.2), A) from by unfold aLots; rw [if_neg (by omega), if_neg (by omega), if_neg (by omega)]]
                  exact je_ret jb_X11_lots rfl (by rfl) ⟨_, _, _, by first | (rw [if_pos (by omega)]; done) | (rw [if_neg (by omega)]; done), rfl, J, fk, tG.rfl' T⟩
                · refine je_ps jb_X11_lots 2 (pc' := 166) (ls' := [_, _, _, _, _, _, _, _, _, _, _]) (st' := [_]) rfl ?_
                  rw [show aLots A x y z w = ((if w = 0 then (lt (aS A) (aN A) (aK A) z y.toNat x.toNat).2.1 else (lt (aS A) (aN A) (aK A) z y.toNat x.toNat).2.2), A) from by unfold aLots; rw [if_neg (by omega), if_neg (by omega), if_neg (by omega)]]
                  exact je_ret jb_X11_lots rfl (by rfl) ⟨_, _, _, by first | (rw [if_pos (by omega)]; done) | (rw [if_neg (by omega)]; done), rfl, J, fk, tG.rfl' T⟩
              · first | (exfalso; omega) | (cases c78; done) | (exfalso; simp_all; done)
          · refine je_ps jb_X11_lots 2 (pc' := 44) (ls' := [_, _, _, _, _, _, _, _, _, _, _]) (st' := [_, _]) rfl ?_
            refine je_icmpeq jb_X11_lots rfl (t := 54) rfl (pc' := 47) rfl (by first | omega | exact (hM _ _).1 | exact (hM _ _).2) (by first | omega | exact (hM _ _).1 | exact (hM _ _).2) (by first | omega | exact (hM _ _).1 | exact (hM _ _).2) (by first | omega | exact (hM _ _).1 | exact (hM _ _).2) (fun c44 => ?_) (fun c44 => ?_)
            · refine je_ps jb_X11_lots 1 (pc' := 55) (ls' := [_, _, _, _, _, _, _, _, _, _, _]) (st' := [_]) rfl ?_
              refine je_get jb_X11_lots rfl (pc' := 58) rfl (jh_at (a := 0) rfl) (by rfl) (by rfl) ?_
              refine je_get jb_X11_lots rfl (pc' := 61) rfl (jh_at (a := 1) rfl) (by rfl) (by rfl) ?_
              refine je_ps jb_X11_lots 9 (pc' := 75) (ls' := [_, _, _, _, _, _, _, _, _, _, _]) (st' := []) rfl ?_
              refine je_loop (fun (v : Nat) ls σ' => ∃ m1 xx, ls = [.ref 0, .int (jI x), .int (jI y), .int (jI z), .int (jI w), .ref 5, .int (jI (lt (aS A) (aN A) (aK A) z y.toNat v).1), .int (jI (lt (aS A) (aN A) (aK A) z y.toNat v).2.1), .int (jI (lt (aS A) (aN A) (aK A) z y.toNat v).2.2), .int (jI v), xx] ∧ σ' = jh m1 r T ∧ iC A m1 r T ∧ kG m m1) (x.toNat) ⟨_, _, rfl, rfl, I, kG.rfl' m⟩ (fun v hv ls σ' gv kv => ?_) (fun ls σ' gv => ?_)
              · obtain ⟨m1, xx, rfl, rfl, ⟨J, fk⟩⟩ := gv
                refine je_ps jb_X11_lots 2 (pc' := 78) (ls' := [_, _, _, _, _, _, _, _, _, _, _]) (st' := [_, _]) rfl ?_
                refine je_icmpge jb_X11_lots rfl (t := 154) rfl (pc' := 81) rfl (by first | omega | exact (hM _ _).1 | exact (hM _ _).2) (by first | omega | exact (hM _ _).1 | exact (hM _ _).2) (by first | omega | exact (hM _ _).1 | exact (hM _ _).2) (by first | omega | exact (hM _ _).1 | exact (hM _ _).2) (fun c78 => ?_) (fun c78 => ?_)
                · first | (exfalso; omega) | (cases c78; done) | (exfalso; simp_all; done)
                · refine je_ps jb_X11_lots 1 (pc' := 83) (ls' := [_, _, _, _, _, _, _, _, _, _, _]) (st' := [_]) rfl ?_
                  refine je_cvP' jb_X11_lots rfl (pc' := 86) rfl (jh_at (a := 5) rfl) (by rfl) (by first | decide | exact Nat.ble_eq_true_of_le (by omega)) (k_clear (i := 12) h12 (J.z h12)) (st' := []) rfl ?_
                  refine je_ps jb_X11_lots 2 (pc' := 89) (ls' := [_, _, _, _, _, _, _, _, _, _, _]) (st' := []) rfl ?_
                  refine je_loop (fun (j : Nat) ls σ' => ls = [.ref 0, .int (jI x), .int (jI y), .int (jI z), .int (jI w), .ref 5, .int (jI (lw (aS A) (aN A) (aK A) (lt (aS A) (aN A) (aK A) z y.toNat v).1 j).1), .int (jI (lt (aS A) (aN A) (aK A) z y.toNat v).2.1), .int (jI (lt (aS A) (aN A) (aK A) z y.toNat v).2.2), .int (jI v), .int (jI j)] ∧ σ' = jh (jW m1 12 (lw (aS A) (aN A) (aK A) (lt (aS A) (aN A) (aK A) z y.toNat v).1 j).2.1 (lw (aS A) (aN A) (aK A) (lt (aS A) (aN A) (aK A) z y.toNat v).1 j).2.2) r T) (y.toNat) ⟨rfl, rfl⟩ (fun j hj ls σ' gj kj => ?_) (fun ls σ' gj => ?_)
                  · obtain ⟨rfl, rfl⟩ := gj
                    have oj := lw_ok (z := (lt (aS A) (aN A) (aK A) z y.toNat v).1) fs j
                    have gj := jWk.w (m := m1) (i := 12) (J.str (i := 12) (by decide)) h12 oj.1 oj.2.1
                    have dz := fDrawn_i (fSeed (lw (aS A) (aN A) (aK A) (lt (aS A) (aN A) (aK A) z y.toNat v).1 j).1)
                    refine je_ps jb_X11_lots 2 (pc' := 92) (ls' := [_, _, _, _, _, _, _, _, _, _, _]) (st' := [_, _]) rfl ?_
                    refine je_icmpge jb_X11_lots rfl (t := 120) rfl (pc' := 95) rfl (by first | omega | exact (hM _ _).1 | exact (hM _ _).2) (by first | omega | exact (hM _ _).1 | exact (hM _ _).2) (by first | omega | exact (hM _ _).1 | exact (hM _ _).2) (by first | omega | exact (hM _ _).1 | exact (hM _ _).2) (fun c92 => ?_) (fun c92 => ?_)
                    · first | (exfalso; omega) | (cases c92; done) | (exfalso; simp_all; done)
                    · refine je_ps jb_X11_lots 1 (pc' := 97) (ls' := [_, _, _, _, _, _, _, _, _, _, _]) (st' := [_]) rfl ?_
                      refine je_csP' jb_X11_lots rfl (pc' := 100) rfl (by rfl) (by first | decide | exact Nat.ble_eq_true_of_le (by omega)) (c_X11_nextSeed) (st' := [_]) rfl ?_
                      refine je_ps jb_X11_lots 4 (pc' := 107) (ls' := [_, _, _, _, _, _, _, _, _, _, _]) (st' := [_, _, _]) rfl ?_
                      refine je_csP' jb_X11_lots rfl (pc' := 110) rfl (by rfl) (by first | decide | exact Nat.ble_eq_true_of_le (by omega)) (c_X11_drawn rfl) (st' := [_, _]) rfl ?_
                      refine je_cvP' jb_X11_lots rfl (pc' := 113) rfl (jh_at (a := 5) rfl) (by rfl) (by first | decide | exact Nat.ble_eq_true_of_le (by omega)) (k_goOn (i := 12) h12 gj (by omega)) (st' := [_]) rfl ?_
                      refine je_ps jb_X11_lots 1 (pc' := 114) (ls' := [_, _, _, _, _, _, _, _, _, _, _]) (st' := []) rfl ?_
                      refine je_iinc jb_X11_lots rfl (pc' := 117) rfl rfl (ls' := [_, _, _, _, _, _, _, _, _, _, _]) rfl ?_
                      refine je_ps jb_X11_lots 1 (pc' := 89) (ls' := [_, _, _, _, _, _, _, _, _, _, _]) (st' := []) rfl ?_
                      refine kj _ _ ⟨rfl, jh_eq ?_⟩
                      rw [jW_W h12]
                      rfl
                  · obtain ⟨rfl, rfl⟩ := gj
                    have oj := lw_ok (z := (lt (aS A) (aN A) (aK A) z y.toNat v).1) fs y.toNat
                    have gj := jWk.w (m := m1) (i := 12) (J.str (i := 12) (by decide)) h12 oj.1 oj.2.1
                    refine je_ps jb_X11_lots 2 (pc' := 92) (ls' := [_, _, _, _, _, _, _, _, _, _, _]) (st' := [_, _]) rfl ?_
                    refine je_icmpge jb_X11_lots rfl (t := 120) rfl (pc' := 95) rfl (by first | omega | exact (hM _ _).1 | exact (hM _ _).2) (by first | omega | exact (hM _ _).1 | exact (hM _ _).2) (by first | omega | exact (hM _ _).1 | exact (hM _ _).2) (by first | omega | exact (hM _ _).1 | exact (hM _ _).2) (fun c92 => ?_) (fun c92 => ?_)
                    · refine je_ps jb_X11_lots 2 (pc' := 124) (ls' := [_, _, _, _, _, _, _, _, _, _, _]) (st' := [_, _]) rfl ?_
                      refine je_cvP' jb_X11_lots rfl (pc' := 127) rfl (jh_at (a := 5) rfl) (by rfl) (by first | decide | exact Nat.ble_eq_true_of_le (by omega)) (k_length (i := 12) h12 gj) (st' := [_, _]) rfl ?_
                      refine je_iadd jb_X11_lots rfl (pc' := 128) rfl ?_
                      refine je_ps jb_X11_lots 3 (pc' := 134) (ls' := [_, _, _, _, _, _, _, _, _, _, _]) (st' := [_, _]) rfl ?_
                      refine je_cvP' jb_X11_lots rfl (pc' := 137) rfl (jh_at (a := 5) rfl) (by rfl) (by first | decide | exact Nat.ble_eq_true_of_le (by omega)) (k_isDead (i := 12) h12 gj) (st' := [_, _]) rfl ?_
                      refine je_ifeqb jb_X11_lots rfl (t := 144) rfl (pc' := 140) rfl (fun c137 => ?_) (fun c137 => ?_)
                      · refine je_ps jb_X11_lots 1 (pc' := 145) (ls' := [_, _, _, _, _, _, _, _, _, _, _]) (st' := [_, _]) rfl ?_
                        refine je_iadd jb_X11_lots rfl (pc' := 146) rfl ?_
                        refine je_ps jb_X11_lots 1 (pc' := 148) (ls' := [_, _, _, _, _, _, _, _, _, _, _]) (st' := []) rfl ?_
                        refine je_iinc jb_X11_lots rfl (pc' := 151) rfl rfl (ls' := [_, _, _, _, _, _, _, _, _, _, _]) rfl ?_
                        refine je_ps jb_X11_lots 1 (pc' := 75) (ls' := [_, _, _, _, _, _, _, _, _, _, _]) (st' := []) rfl ?_
                        have elt : lt (aS A) (aN A) (aK A) z y.toNat (v + 1) = ((lw (aS A) (aN A) (aK A) (lt (aS A) (aN A) (aK A) z y.toNat v).1 y.toNat).1, (lt (aS A) (aN A) (aK A) z y.toNat v).2.1 + fLen (aS A) (aN A) (aK A) (lw (aS A) (aN A) (aK A) (lt (aS A) (aN A) (aK A) z y.toNat v).1 y.toNat).2.1 (lw (aS A) (aN A) (aK A) (lt (aS A) (aN A) (aK A) z y.toNat v).1 y.toNat).2.2, (lt (aS A) (aN A) (aK A) z y.toNat v).2.2 + jb (lDead (aS A) (aN A) (aK A) (lw (aS A) (aN A) (aK A) (lt (aS A) (aN A) (aK A) z y.toNat v).1 y.toNat).2)) := rfl
                        first | rw [elt, show lDead (aS A) (aN A) (aK A) (lw (aS A) (aN A) (aK A) (lt (aS A) (aN A) (aK A) z y.toNat v).1 y.toNat).2 = true from c137] at kv | rw [elt, show lDead (aS A) (aN A) (aK A) (lw (aS A) (aN A) (aK A) (lt (aS A) (aN A) (aK A) z y.toNat v).1 y.toNat).2 = false from c137] at kv
                        exact kv _ _ ⟨_, _, rfl, rfl, J.junk (Or.inr rfl) oj.2.2, fk.w h12 _ _⟩
                      · refine je_ps jb_X11_lots 2 (pc' := 145) (ls' := [_, _, _, _, _, _, _, _, _, _, _]) (st' := [_, _]) rfl ?_
                        refine je_iadd jb_X11_lots rfl (pc' := 146) rfl ?_
                        refine je_ps jb_X11_lots 1 (pc' := 148) (ls' := [_, _, _, _, _, _, _, _, _, _, _]) (st' := []) rfl ?_
                        refine je_iinc jb_X11_lots rfl (pc' := 151) rfl rfl (ls' := [_, _, _, _, _, _, _, _, _, _, _]) rfl ?_
                        refine je_ps jb_X11_lots 1 (pc' := 75) (ls' := [_, _, _, _, _, _, _, _, _, _, _]) (st' := []) rfl ?_
                        have elt : lt (aS A) (aN A) (aK A) z y.toNat (v + 1) = ((lw (aS A) (aN A) (aK A) (lt (aS A) (aN A) (aK A) z y.toNat v).1 y.toNat).1, (lt (aS A) (aN A) (aK A) z y.toNat v).2.1 + fLen (aS A) (aN A) (aK A) (lw (aS A) (aN A) (aK A) (lt (aS A) (aN A) (aK A) z y.toNat v).1 y.toNat).2.1 (lw (aS A) (aN A) (aK A) (lt (aS A) (aN A) (aK A) z y.toNat v).1 y.toNat).2.2, (lt (aS A) (aN A) (aK A) z y.toNat v).2.2 + jb (lDead (aS A) (aN A) (aK A) (lw (aS A) (aN A) (aK A) (lt (aS A) (aN A) (aK A) z y.toNat v).1 y.toNat).2)) := rfl
                        first | rw [elt, show lDead (aS A) (aN A) (aK A) (lw (aS A) (aN A) (aK A) (lt (aS A) (aN A) (aK A) z y.toNat v).1 y.toNat).2 = true from c137] at kv | rw [elt, show lDead (aS A) (aN A) (aK A) (lw (aS A) (aN A) (aK A) (lt (aS A) (aN A) (aK A) z y.toNat v).1 y.toNat).2 = false from c137] at kv
                        exact kv _ _ ⟨_, _, rfl, rfl, J.junk (Or.inr rfl) oj.2.2, fk.w h12 _ _⟩
                    · first | (exfalso; omega) | (cases c92; done) | (exfalso; simp_all; done)
              · obtain ⟨m1, xx, rfl, rfl, ⟨J, fk⟩⟩ := gv
                refine je_ps jb_X11_lots 2 (pc' := 78) (ls' := [_, _, _, _, _, _, _, _, _, _, _]) (st' := [_, _]) rfl ?_
                refine je_icmpge jb_X11_lots rfl (t := 154) rfl (pc' := 81) rfl (by first | omega | exact (hM _ _).1 | exact (hM _ _).2) (by first | omega | exact (hM _ _).1 | exact (hM _ _).2) (by first | omega | exact (hM _ _).1 | exact (hM _ _).2) (by first | omega | exact (hM _ _).1 | exact (hM _ _).2) (fun c78 => ?_) (fun c78 => ?_)
                · refine je_ps jb_X11_lots 1 (pc' := 156) (ls' := [_, _, _, _, _, _, _, _, _, _, _]) (st' := [_]) rfl ?_
                  refine je_ifne jb_X11_lots rfl (t := 164) rfl (pc' := 159) rfl (by first | omega | exact (hM _ _).1 | exact (hM _ _).2) (by first | omega | exact (hM _ _).1 | exact (hM _ _).2) (fun c156 => ?_) (fun c156 => ?_)
                  · refine je_ps jb_X11_lots 1 (pc' := 166) (ls' := [_, _, _, _, _, _, _, _, _, _, _]) (st' := [_]) rfl ?_
                    rw [show aLots A x y z w = ((if w = 0 then (lt (aS A) (aN A) (aK A) z y.toNat x.toNat).2.1 else (lt (aS A) (aN A) (aK A) z y.toNat x.toNat).2.2), A) from by unfold aLots; rw [if_neg (by omega), if_neg (by omega), if_neg (by omega)]]
                    exact je_ret jb_X11_lots rfl (by rfl) ⟨_, _, _, by first | (rw [if_pos (by omega)]; done) | (rw [if_neg (by omega)]; done), rfl, J, fk, tG.rfl' T⟩
                  · refine je_ps jb_X11_lots 2 (pc' := 166) (ls' := [_, _, _, _, _, _, _, _, _, _, _]) (st' := [_]) rfl ?_
                    rw [show aLots A x y z w = ((if w = 0 then (lt (aS A) (aN A) (aK A) z y.toNat x.toNat).2.1 else (lt (aS A) (aN A) (aK A) z y.toNat x.toNat).2.2), A) from by unfold aLots; rw [if_neg (by omega), if_neg (by omega), if_neg (by omega)]]
                    exact je_ret jb_X11_lots rfl (by rfl) ⟨_, _, _, by first | (rw [if_pos (by omega)]; done) | (rw [if_neg (by omega)]; done), rfl, J, fk, tG.rfl' T⟩
                · first | (exfalso; omega) | (cases c78; done) | (exfalso; simp_all; done)
            · refine je_ps jb_X11_lots 2 (pc' := 50) (ls' := [_, _, _, _, _, _, _, _, _, _, _]) (st' := [_, _]) rfl ?_
              refine je_cvP' jb_X11_lots rfl (pc' := 53) rfl (jh_at (a := 0) rfl) (by rfl) (by first | decide | exact Nat.ble_eq_true_of_le (by omega)) (c_X11_refuse (by omega)) (st' := [_]) rfl ?_
              rw [show aLots A x y z w = aRef A (-2) from by unfold aLots; rw [if_neg (by omega), if_neg (by omega), if_pos (by omega)]]
              exact je_ret jb_X11_lots rfl (by rfl) ⟨_, _, _, rfl, rfl, I.ref (by omega), kG.ref m _, tG.rfl' T⟩
        · refine je_ps jb_X11_lots 2 (pc' := 32) (ls' := [_, _, _, _, _, _, _, _, _, _, _]) (st' := [_, _]) rfl ?_
          refine je_cvP' jb_X11_lots rfl (pc' := 35) rfl (jh_at (a := 0) rfl) (by rfl) (by first | decide | exact Nat.ble_eq_true_of_le (by omega)) (c_X11_refuse (by omega)) (st' := [_]) rfl ?_
          rw [show aLots A x y z w = aRef A (-6) from by unfold aLots; rw [if_neg (by omega), if_pos (by omega)]]
          exact je_ret jb_X11_lots rfl (by rfl) ⟨_, _, _, rfl, rfl, I.ref (by omega), kG.ref m _, tG.rfl' T⟩
    · refine je_ps jb_X11_lots 2 (pc' := 13) (ls' := [_, _, _, _, _, _, _, _, _, _, _]) (st' := [_, _]) rfl ?_
      refine je_cvP' jb_X11_lots rfl (pc' := 16) rfl (jh_at (a := 0) rfl) (by rfl) (by first | decide | exact Nat.ble_eq_true_of_le (by omega)) (c_X11_refuse (by omega)) (st' := [_]) rfl ?_
      rw [show aLots A x y z w = aRef A (-4) from by unfold aLots; rw [if_pos (by omega)]]
      exact je_ret jb_X11_lots rfl (by rfl) ⟨_, _, _, rfl, rfl, I.ref (by omega), kG.ref m _, tG.rfl' T⟩
def aCount (A : aT) (x : Int) : Int := if x = 0 then aS A else if x = 1 then aN A else if x = 2 then aK A else if x = 3 then (aC A : Int) else if x = 4 then (aHc A : Int) else if x = 5 then (aQ A).2 else if 11 ≤ x ∧ x < 17 then aR A (x - 11) else -9
theorem iC.rf {A : aT} (I : iC A m r T) {j : Int} (h0 : 0 ≤ j) (h1 : j < 6) : m 44 j = aR A j := I.2.2.2.2.2.2.2.2 j h0 h1
theorem cl_count {A : aT} (I : iC A m r T) {x : Int} (hx : -2147483648 ≤ x ∧ x ≤ 2147483647) : jq sc 4 jm_X11_count [.ref 0, .int (jI x)] (jh m r T) (cQ ((aCount A x, A)) m T) := by
  have c6 := I.c6
  have fs := I.fs
  refine je_in jb_X11_count rfl (ls := [_, _, _, _]) rfl ?_
  refine je_ps jb_X11_count 1 (pc' := 1) (ls' := [_, _, _, _]) (st' := [_]) rfl ?_
  refine je_swc fun y1 ey1 => ?_
  rcases (by omega : y1 = 0 ∨ y1 = 1 ∨ y1 = 2 ∨ y1 = 3 ∨ y1 = 4 ∨ y1 = 5 ∨ (y1 < 0 ∨ 5 < y1)) with c1 | c1 | c1 | c1 | c1 | c1 | c1
  · rw [c1]
    refine je_sw jb_X11_count rfl (t := 40) (st' := []) rfl ?_
    refine je_ps jb_X11_count 1 (pc' := 41) (ls' := [_, _, _, _]) (st' := [_]) rfl ?_
    refine je_get jb_X11_count rfl (pc' := 44) rfl (jh_at (a := 0) rfl) (by rfl) (by rfl) ?_
    refine je_get jb_X11_count rfl (pc' := 47) rfl (jh_at (a := 1) rfl) (by rfl) (by rfl) ?_
    refine je_get jb_X11_count rfl (pc' := 50) rfl (jh_at (a := 2) rfl) (by rfl) (by rfl) ?_
    exact je_ret jb_X11_count rfl (by rfl) ⟨_, _, _, by show _ = some (Value.int (jI (aCount A x))); unfold aCount; rw [if_pos (by omega), I.2.1.1.1]; rfl, rfl, I, kG.rfl' m, tG.rfl' T⟩
  · rw [c1]
    refine je_sw jb_X11_count rfl (t := 51) (st' := []) rfl ?_
    refine je_ps jb_X11_count 1 (pc' := 52) (ls' := [_, _, _, _]) (st' := [_]) rfl ?_
    refine je_get jb_X11_count rfl (pc' := 55) rfl (jh_at (a := 0) rfl) (by rfl) (by rfl) ?_
    refine je_get jb_X11_count rfl (pc' := 58) rfl (jh_at (a := 1) rfl) (by rfl) (by rfl) ?_
    refine je_get jb_X11_count rfl (pc' := 61) rfl (jh_at (a := 2) rfl) (by rfl) (by rfl) ?_
    exact je_ret jb_X11_count rfl (by rfl) ⟨_, _, _, by show _ = some (Value.int (jI (aCount A x))); unfold aCount; rw [if_neg (by omega), if_pos (by omega), I.2.1.1.2.1]; rfl, rfl, I, kG.rfl' m, tG.rfl' T⟩
  · rw [c1]
    refine je_sw jb_X11_count rfl (t := 62) (st' := []) rfl ?_
    refine je_ps jb_X11_count 1 (pc' := 63) (ls' := [_, _, _, _]) (st' := [_]) rfl ?_
    refine je_get jb_X11_count rfl (pc' := 66) rfl (jh_at (a := 0) rfl) (by rfl) (by rfl) ?_
    refine je_get jb_X11_count rfl (pc' := 69) rfl (jh_at (a := 1) rfl) (by rfl) (by rfl) ?_
    refine je_get jb_X11_count rfl (pc' := 72) rfl (jh_at (a := 2) rfl) (by rfl) (by rfl) ?_
    exact je_ret jb_X11_count rfl (by rfl) ⟨_, _, _, by show _ = some (Value.int (jI (aCount A x))); unfold aCount; rw [if_neg (by omega), if_neg (by omega), if_pos (by omega), I.2.1.1.2.2]; rfl, rfl, I, kG.rfl' m, tG.rfl' T⟩
  · rw [c1]
    refine je_sw jb_X11_count rfl (t := 73) (st' := []) rfl ?_
    refine je_ps jb_X11_count 1 (pc' := 74) (ls' := [_, _, _, _]) (st' := [_]) rfl ?_
    refine je_get jb_X11_count rfl (pc' := 77) rfl (jh_at (a := 0) rfl) (by rfl) (by rfl) ?_
    refine je_get jb_X11_count rfl (pc' := 80) rfl (jh_at (a := 1) rfl) (by rfl) (by rfl) ?_
    exact je_ret jb_X11_count rfl (by rfl) ⟨_, _, _, by show _ = some (Value.int (jI (aCount A x))); unfold aCount; rw [if_neg (by omega), if_neg (by omega), if_neg (by omega), if_pos (by omega), I.c], rfl, I, kG.rfl' m, tG.rfl' T⟩
  · rw [c1]
    refine je_sw jb_X11_count rfl (t := 81) (st' := []) rfl ?_
    refine je_ps jb_X11_count 1 (pc' := 82) (ls' := [_, _, _, _]) (st' := [_]) rfl ?_
    refine je_get jb_X11_count rfl (pc' := 85) rfl (jh_at (a := 0) rfl) (by rfl) (by rfl) ?_
    refine je_get jb_X11_count rfl (pc' := 88) rfl (jh_at (a := 1) rfl) (by rfl) (by rfl) ?_
    exact je_ret jb_X11_count rfl (by rfl) ⟨_, _, _, by show _ = some (Value.int (jI (aCount A x))); unfold aCount; rw [if_neg (by omega), if_neg (by omega), if_neg (by omega), if_neg (by omega), if_pos (by omega), I.hc], rfl, I, kG.rfl' m, tG.rfl' T⟩
  · rw [c1]
    refine je_sw jb_X11_count rfl (t := 89) (st' := []) rfl ?_
    refine je_ps jb_X11_count 1 (pc' := 90) (ls' := [_, _, _, _]) (st' := [_]) rfl ?_
    refine je_get jb_X11_count rfl (pc' := 93) rfl (jh_at (a := 0) rfl) (by rfl) (by rfl) ?_
    refine je_get jb_X11_count rfl (pc' := 96) rfl (jh_at (a := 37) rfl) (by rfl) (by rfl) ?_
    exact je_ret jb_X11_count rfl (by rfl) ⟨_, _, _, by show _ = some (Value.int (jI (aCount A x))); unfold aCount; rw [if_neg (by omega), if_neg (by omega), if_neg (by omega), if_neg (by omega), if_neg (by omega), if_pos (by omega), I.q.2.1], rfl, I, kG.rfl' m, tG.rfl' T⟩
  · refine je_swO jb_X11_count rfl (t := 97) rfl (by omega) (by omega) c1 ?_
    refine je_ps jb_X11_count 2 (pc' := 100) (ls' := [_, _, _, _]) (st' := [_, _]) rfl ?_
    refine je_isub jb_X11_count rfl (pc' := 101) rfl ?_
    refine je_ps jb_X11_count 3 (pc' := 105) (ls' := [_, _, _, _]) (st' := [_, _]) rfl ?_
    refine je_icmplt jb_X11_count rfl (t := 121) rfl (pc' := 108) rfl (by first | omega | exact (hM _ _).1 | exact (hM _ _).2) (by first | omega | exact (hM _ _).1 | exact (hM _ _).2) (by first | omega | exact (hM _ _).1 | exact (hM _ _).2) (by first | omega | exact (hM _ _).1 | exact (hM _ _).2) (fun c105 => ?_) (fun c105 => ?_)
    · refine je_ps jb_X11_count 3 (pc' := 124) (ls' := [_, _, _, _]) (st' := [_]) rfl ?_
      refine je_ifeq jb_X11_count rfl (t := 136) rfl (pc' := 127) rfl (by first | omega | exact (hM _ _).1 | exact (hM _ _).2) (by first | omega | exact (hM _ _).1 | exact (hM _ _).2) (fun c124 => ?_) (fun c124 => ?_)
      · refine je_ps jb_X11_count 1 (pc' := 138) (ls' := [_, _, _, _]) (st' := [_]) rfl ?_
        first | (exfalso; omega) | exact je_ret jb_X11_count rfl (by rfl) ⟨_, _, _, by show _ = some (Value.int (jI (aCount A x))); unfold aCount; rw [if_neg (by omega), if_neg (by omega), if_neg (by omega), if_neg (by omega), if_neg (by omega), if_neg (by omega), if_pos (by omega), I.rf (by omega) (by omega)], rfl, I, kG.rfl' m, tG.rfl' T⟩ | exact je_ret jb_X11_count rfl (by rfl) ⟨_, _, _, by show _ = some (Value.int (jI (aCount A x))); unfold aCount; rw [if_neg (by omega), if_neg (by omega), if_neg (by omega), if_neg (by omega), if_neg (by omega), if_neg (by omega), if_neg (by omega)], rfl, I, kG.rfl' m, tG.rfl' T⟩
      · first | (exfalso; omega) | (cases c124; done) | (exfalso; simp_all; done)
    · refine je_ps jb_X11_count 2 (pc' := 110) (ls' := [_, _, _, _]) (st' := [_, _]) rfl ?_
      refine je_get jb_X11_count rfl (pc' := 113) rfl (jh_at (a := 0) rfl) (by rfl) (by rfl) ?_
      refine je_alen jb_X11_count rfl (pc' := 114) rfl (n := 6) (f := _) (jh_at (a := 44) rfl) ?_
      refine je_icmpge jb_X11_count rfl (t := 121) rfl (pc' := 117) rfl (by first | omega | exact (hM _ _).1 | exact (hM _ _).2) (by first | omega | exact (hM _ _).1 | exact (hM _ _).2) (by first | omega | exact (hM _ _).1 | exact (hM _ _).2) (by first | omega | exact (hM _ _).1 | exact (hM _ _).2) (fun c114 => ?_) (fun c114 => ?_)
      · refine je_ps jb_X11_count 3 (pc' := 124) (ls' := [_, _, _, _]) (st' := [_]) rfl ?_
        refine je_ifeq jb_X11_count rfl (t := 136) rfl (pc' := 127) rfl (by first | omega | exact (hM _ _).1 | exact (hM _ _).2) (by first | omega | exact (hM _ _).1 | exact (hM _ _).2) (fun c124 => ?_) (fun c124 => ?_)
        · refine je_ps jb_X11_count 1 (pc' := 138) (ls' := [_, _, _, _]) (st' := [_]) rfl ?_
          first | (exfalso; omega) | exact je_ret jb_X11_count rfl (by rfl) ⟨_, _, _, by show _ = some (Value.int (jI (aCount A x))); unfold aCount; rw [if_neg (by omega), if_neg (by omega), if_neg (by omega), if_neg (by omega), if_neg (by omega), if_neg (by omega), if_pos (by omega), I.rf (by omega) (by omega)], rfl, I, kG.rfl' m, tG.rfl' T⟩ | exact je_ret jb_X11_count rfl (by rfl) ⟨_, _, _, by show _ = some (Value.int (jI (aCount A x))); unfold aCount; rw [if_neg (by omega), if_neg (by omega), if_neg (by omega), if_neg (by omega), if_neg (by omega), if_neg (by omega), if_neg (by omega)], rfl, I, kG.rfl' m, tG.rfl' T⟩
        · first | (exfalso; omega) | (cases c124; done) | (exfalso; simp_all; done)
      · refine je_ps jb_X11_count 4 (pc' := 124) (ls' := [_, _, _, _]) (st' := [_]) rfl ?_
        refine je_ifeq jb_X11_count rfl (t := 136) rfl (pc' := 127) rfl (by first | omega | exact (hM _ _).1 | exact (hM _ _).2) (by first | omega | exact (hM _ _).1 | exact (hM _ _).2) (fun c124 => ?_) (fun c124 => ?_)
        · first | (exfalso; omega) | (cases c124; done) | (exfalso; simp_all; done)
        · refine je_ps jb_X11_count 1 (pc' := 128) (ls' := [_, _, _, _]) (st' := [_]) rfl ?_
          refine je_get jb_X11_count rfl (pc' := 131) rfl (jh_at (a := 0) rfl) (by rfl) (by rfl) ?_
          refine je_ps jb_X11_count 1 (pc' := 132) (ls' := [_, _, _, _]) (st' := [_, _]) rfl ?_
          refine je_iald jb_X11_count rfl (pc' := 133) rfl (n := 6) (f := _) (jh_at (a := 44) rfl) (by first | omega | exact (hM _ _).1 | exact (hM _ _).2) (by first | omega | exact (hM _ _).1 | exact (hM _ _).2) (by first | omega | exact (hM _ _).1 | exact (hM _ _).2) ?_
          refine je_ps jb_X11_count 1 (pc' := 138) (ls' := [_, _, _, _]) (st' := [_]) rfl ?_
          first | (exfalso; omega) | exact je_ret jb_X11_count rfl (by rfl) ⟨_, _, _, by show _ = some (Value.int (jI (aCount A x))); unfold aCount; rw [if_neg (by omega), if_neg (by omega), if_neg (by omega), if_neg (by omega), if_neg (by omega), if_neg (by omega), if_pos (by omega), I.rf (by omega) (by omega)], rfl, I, kG.rfl' m, tG.rfl' T⟩ | exact je_ret jb_X11_count rfl (by rfl) ⟨_, _, _, by show _ = some (Value.int (jI (aCount A x))); unfold aCount; rw [if_neg (by omega), if_neg (by omega), if_neg (by omega), if_neg (by omega), if_neg (by omega), if_neg (by omega), if_neg (by omega)], rfl, I, kG.rfl' m, tG.rfl' T⟩
end C57
