/-! CALLS of the other side: lists -/
section C73
variable {sc : Nat × (Nat → Int32)} {m : Nat → Int → Int} {r : Nat → Nat → Value} {T : jx_H} {σ : jx_H}
theorem iG.li {A : aT} (J : iG A m) {x : Int} (h : 0 ≤ x ∧ x < 3) : m 56 x = (aL A x.toNat).2 ∧ ∀ p : Int, 0 ≤ p → p < (aL A x.toNat).2 → m 57 (40 * x + p) = (aL A x.toNat).1 p := by
  have g := J.2.2.2.2.2.2.1 x.toNat (by omega)
  rwa [show ((x.toNat : Nat) : Int) = x by omega] at g
theorem aOk.lo {A : aT} (O : aOk A) {x : Int} (h : 0 ≤ x ∧ x < 3) : ((aL A x.toNat).2 = -1 ∨ 0 ≤ (aL A x.toNat).2 ∧ (aL A x.toNat).2 ≤ 40) ∧ ∀ p, -2147483648 ≤ (aL A x.toNat).1 p ∧ (aL A x.toNat).1 p ≤ 2147483647 := O.2.2.2 x.toNat (by omega)
theorem iG.sl {A : aT} (J : iG A m) (O : aOk A) {x : Int} (h : 0 ≤ x ∧ x < 3) {f : Int → Int} {z : Int} {m' : Nat → Int → Int} (hb : ∀ b : Nat, b ≠ 56 → b ≠ 57 → m' b = m b) (h1 : ∀ l : Int, l ≠ x → m' 56 l = m 56 l) (h2 : m' 56 x = z) (h3 : ∀ a : Int, ¬ (40 * x ≤ a ∧ a < 40 * x + 40) → m' 57 a = m 57 a) (h4 : ∀ p : Int, 0 ≤ p → p < z → m' 57 (40 * x + p) = f p) : iG (sL A x.toNat (f, z)) m' := by
  obtain ⟨j1, j2, j3, j4, j5, j6, j7, j8, j9, j10⟩ := J
  refine ⟨⟨?_, j1.2⟩, ?_, ?_, ?_, ?_, ?_, fun l hl => ?_, ?_, ?_, fun h => ?_⟩
  · rw [hb 45 (by decide) (by decide)]; exact j1.1
  · rw [hb 45 (by decide) (by decide)]; exact j2
  · intro i hi
    have g := j3 i hi
    unfold gR at *; rw [hb 47 (by decide) (by decide), hb 48 (by decide) (by decide)]; exact g
  · rw [hb 45 (by decide) (by decide)]; exact j4
  · rw [hb 49 (by decide) (by decide), hb 50 (by decide) (by decide)]; exact j5
  · rw [hb 45 (by decide) (by decide), hb 55 (by decide) (by decide)]; exact j6
  · show m' 56 (l : Int) = (if l = x.toNat then (f, z) else A.2.2.2.1 l).2 ∧ ∀ p : Int, 0 ≤ p → p < (if l = x.toNat then (f, z) else A.2.2.2.1 l).2 → m' 57 (40 * (l : Int) + p) = (if l = x.toNat then (f, z) else A.2.2.2.1 l).1 p
    by_cases c : l = x.toNat
    · rw [if_pos c, show (l : Int) = x by omega]
      exact ⟨h2, h4⟩
    · have o := (O.2.2.2 l hl).1
      have g := j7 l hl
      have o' : (A.2.2.2.1 l).2 = -1 ∨ 0 ≤ (A.2.2.2.1 l).2 ∧ (A.2.2.2.1 l).2 ≤ 40 := o
      rw [if_neg c, h1 _ (by omega)]
      exact ⟨g.1, fun p p0 p1 => (h3 _ (by omega)).trans (g.2 p p0 p1)⟩
  · rw [hb 46 (by decide) (by decide)]; exact j8
  · rw [hb 45 (by decide) (by decide)]; exact j9
  · have k := j10 h
    unfold gK at *
    rw [hb 45 (by decide) (by decide), hb 58 (by decide) (by decide), hb 59 (by decide) (by decide), hb 60 (by decide) (by decide), hb 61 (by decide) (by decide)]
    exact k
theorem gLay_0 (f L : Int → Int) (y : Int) : fLay f L y 0 = f := by
  funext p
  unfold fLay
  rw [if_neg (by omega)]
theorem gLay_s {f L : Int → Int} {y v a b : Int} (hv : 0 ≤ v) (ha : a = y + v) (hb : b = L v) : ju (fLay f L y v) a b = fLay f L y (v + 1) := by
  funext p
  unfold fLay ju
  by_cases c : p = a
  · rw [if_pos c, if_pos (by omega), hb, c, ha, show y + v - y = v by omega]
  · rw [if_neg c]
    show (if y ≤ p ∧ p < y + v then L (p - y) else f p) = _
    by_cases c2 : y ≤ p ∧ p < y + v
    · rw [if_pos c2, if_pos (by omega)]
    · rw [if_neg c2, if_neg (by omega)]
theorem gLay_in {f L : Int → Int} {y n p : Int} (h : 0 ≤ p ∧ p < n) : fLay f L y n (y + p) = L p := by
  unfold fLay
  rw [if_pos (by omega), show y + p - y = p by omega]
theorem gLay_out {f L : Int → Int} {y n p : Int} (h : ¬ (y ≤ p ∧ p < y + n)) : fLay f L y n p = f p := if_neg h
theorem jU_sf {a : Nat} {f : Int → Int} (h : f = m a) : jU m a f = m := by
  subst h
  exact jU_self m a
theorem gl_list {A : aT} (O : aOk A) (J : iG A m) {x y : Int} (hx : -2147483648 ≤ x ∧ x ≤ 2147483647) (hy : -2147483648 ≤ y ∧ y ≤ 2147483647) : jq sc 10 jm_X12_list [.ref 45, .int (jI x), .int (jI y)] (jh m r T) (gQ (aList A x y) m r T) := by
  have c6 := O.c6
  have fs := O.fs
  have jc := J.c
  refine je_in jb_X12_list rfl (ls := [_, _, _, _]) rfl ?_
  refine je_ps jb_X12_list 1 (pc' := 1) (ls' := [_, _, _, _]) (st' := [_]) rfl ?_
  refine je_csP' jb_X12_list rfl (pc' := 4) rfl (by rfl) (by first | decide | exact Nat.ble_eq_true_of_le (by omega)) (c_X12_isList (by omega)) (st' := [_]) rfl ?_
  refine je_ifneb jb_X12_list rfl (t := 13) rfl (pc' := 7) rfl (fun c4 => ?_) (fun c4 => ?_)
  · have hl := of_decide_eq_true c4
    refine je_ps jb_X12_list 2 (pc' := 16) (ls' := [_, _, _, _]) (st' := [_, _]) rfl ?_
    refine je_icmple jb_X12_list rfl (t := 26) rfl (pc' := 19) rfl (by first | omega | exact (hM _ _).1 | exact (hM _ _).2) (by first | omega | exact (hM _ _).1 | exact (hM _ _).2) (by first | omega | exact (hM _ _).1 | exact (hM _ _).2) (by first | omega | exact (hM _ _).1 | exact (hM _ _).2) (fun c16 => ?_) (fun c16 => ?_)
    · refine je_ps jb_X12_list 1 (pc' := 27) (ls' := [_, _, _, _]) (st' := [_]) rfl ?_
      refine je_ifge jb_X12_list rfl (t := 33) rfl (pc' := 30) rfl (by first | omega | exact (hM _ _).1 | exact (hM _ _).2) (by first | omega | exact (hM _ _).1 | exact (hM _ _).2) (fun c27 => ?_) (fun c27 => ?_)
      · refine je_ps jb_X12_list 1 (pc' := 34) (ls' := [_, _, _, _]) (st' := [_]) rfl ?_
        refine je_get jb_X12_list rfl (pc' := 37) rfl (jh_at (a := 45) rfl) (by rfl) (by rfl) ?_
        refine je_ps jb_X12_list 2 (pc' := 39) (ls' := [_, _, _, _]) (st' := [_, _, _]) rfl ?_
        refine je_iastI jb_X12_list rfl (pc' := 40) rfl (n := 3) (a := 56) rfl (fun _ => rfl) (by first | omega | exact (hM _ _).1 | exact (hM _ _).2) (by first | omega | exact (hM _ _).1 | exact (hM _ _).2) (by first | omega | exact (hM _ _).1 | exact (hM _ _).2) ?_
        refine je_ps jb_X12_list 2 (pc' := 42) (ls' := [_, _, _, _]) (st' := []) rfl ?_
        refine je_loop (fun (v : Nat) ls σ' => ls = [.ref 45, .int (jI x), .int (jI y), .int (jI v)] ∧ σ' = jh (jU (jU m 56 (ju (m 56) x y)) 57 (fLay (m 57) (fun _ => 0) (40 * x) v)) r T) (40) ⟨rfl, jh_eq (jU_sf (by rw [show ((0 : Nat) : Int) = 0 from rfl, gLay_0]; exact (jU_ne (by decide)).symm)).symm⟩ (fun v hv ls σ' gv kv => ?_) (fun ls σ' gv => ?_)
        · obtain ⟨rfl, rfl⟩ := gv
          refine je_ps jb_X12_list 2 (pc' := 45) (ls' := [_, _, _, _]) (st' := [_, _]) rfl ?_
          refine je_icmpge jb_X12_list rfl (t := 66) rfl (pc' := 48) rfl (by first | omega | exact (hM _ _).1 | exact (hM _ _).2) (by first | omega | exact (hM _ _).1 | exact (hM _ _).2) (by first | omega | exact (hM _ _).1 | exact (hM _ _).2) (by first | omega | exact (hM _ _).1 | exact (hM _ _).2) (fun c45 => ?_) (fun c45 => ?_)
          · first | (exfalso; omega) | (cases c45; done) | (exfalso; simp_all; done)
          · refine je_ps jb_X12_list 1 (pc' := 49) (ls' := [_, _, _, _]) (st' := [_]) rfl ?_
            refine je_get jb_X12_list rfl (pc' := 52) rfl (jh_at (a := 45) rfl) (by rfl) (by rfl) ?_
            refine je_ps jb_X12_list 2 (pc' := 55) (ls' := [_, _, _, _]) (st' := [_, _, _]) rfl ?_
            refine je_imul jb_X12_list rfl (pc' := 56) rfl ?_
            refine je_ps jb_X12_list 1 (pc' := 57) (ls' := [_, _, _, _]) (st' := [_, _, _]) rfl ?_
            refine je_iadd jb_X12_list rfl (pc' := 58) rfl ?_
            refine je_ps jb_X12_list 1 (pc' := 59) (ls' := [_, _, _, _]) (st' := [_, _, _]) rfl ?_
            refine je_iastI jb_X12_list rfl (pc' := 60) rfl (n := 120) (a := 57) rfl (fun _ => rfl) (by first | omega | exact (hM _ _).1 | exact (hM _ _).2) (by first | omega | exact (hM _ _).1 | exact (hM _ _).2) (by first | omega | exact (hM _ _).1 | exact (hM _ _).2) ?_
            refine je_iinc jb_X12_list rfl (pc' := 63) rfl rfl (ls' := [_, _, _, _]) rfl ?_
            refine je_ps jb_X12_list 1 (pc' := 42) (ls' := [_, _, _, _]) (st' := []) rfl ?_
            refine kv _ _ ⟨rfl, jh_eq ?_⟩
            rw [jU_same, jU_jU]
            exact congrArg (jU _ 57) (gLay_s (by omega) rfl rfl)
        · obtain ⟨rfl, rfl⟩ := gv
          refine je_ps jb_X12_list 2 (pc' := 45) (ls' := [_, _, _, _]) (st' := [_, _]) rfl ?_
          refine je_icmpge jb_X12_list rfl (t := 66) rfl (pc' := 48) rfl (by first | omega | exact (hM _ _).1 | exact (hM _ _).2) (by first | omega | exact (hM _ _).1 | exact (hM _ _).2) (by first | omega | exact (hM _ _).1 | exact (hM _ _).2) (by first | omega | exact (hM _ _).1 | exact (hM _ _).2) (fun c45 => ?_) (fun c45 => ?_)
          · refine je_ps jb_X12_list 1 (pc' := 67) (ls' := [_, _, _, _]) (st' := [_]) rfl ?_
            rw [show aList A x y = (1, sL A x.toNat (fun _ => 0, y)) from by unfold aList; rw [if_pos hl, if_neg (by omega), if_neg (by omega)]]
            exact je_ret jb_X12_list rfl (by rfl) ⟨_, rfl, rfl, J.sl O hl (fun b h1 h2 => by rw [jU_ne h2, jU_ne h1]) (fun l h => by rw [jU_ne (by decide), jU_same, ju_ne h]) (by rw [jU_ne (by decide), jU_same, ju_same]) (fun a h => by rw [jU_same]; exact gLay_out (by omega)) (fun p p0 p1 => by rw [jU_same, gLay_in (by omega)]), ((kC.rfl' m).u (by decide) _).u (by decide) _⟩
          · first | (exfalso; omega) | (cases c45; done) | (exfalso; simp_all; done)
      · refine je_ps jb_X12_list 1 (pc' := 32) (ls' := [_, _, _, _]) (st' := [_]) rfl ?_
        rw [show aList A x y = (-14, A) from by unfold aList; rw [if_pos hl, if_neg (by omega), if_pos (by omega)]]
        exact je_ret jb_X12_list rfl (by rfl) ⟨_, rfl, rfl, J, (kC.rfl' m)⟩
    · refine je_ps jb_X12_list 2 (pc' := 22) (ls' := [_, _, _, _]) (st' := [_, _]) rfl ?_
      refine je_cvP' jb_X12_list rfl (pc' := 25) rfl (jh_at (a := 45) rfl) (by rfl) (by first | decide | exact Nat.ble_eq_true_of_le (by omega)) (c_X12_refused (by omega)) (st' := [_]) rfl ?_
      rw [show aList A x y = aRef A (-6) from by unfold aList; rw [if_pos hl, if_pos (by omega)]]
      exact je_ret jb_X12_list rfl (by rfl) ⟨_, rfl, rfl, J.ref (by omega), (kC.rfl' m).u (by decide) _⟩
  · refine je_ps jb_X12_list 2 (pc' := 9) (ls' := [_, _, _, _]) (st' := [_, _]) rfl ?_
    refine je_cvP' jb_X12_list rfl (pc' := 12) rfl (jh_at (a := 45) rfl) (by rfl) (by first | decide | exact Nat.ble_eq_true_of_le (by omega)) (c_X12_refused (by omega)) (st' := [_]) rfl ?_
    rw [show aList A x y = aRef A (-1) from by unfold aList; rw [if_neg (of_decide_eq_false c4)]]
    exact je_ret jb_X12_list rfl (by rfl) ⟨_, rfl, rfl, J.ref (by omega), (kC.rfl' m).u (by decide) _⟩
theorem gl_put {A : aT} (O : aOk A) (J : iG A m) {x y z : Int} (hx : -2147483648 ≤ x ∧ x ≤ 2147483647) (hy : -2147483648 ≤ y ∧ y ≤ 2147483647) (hz : -2147483648 ≤ z ∧ z ≤ 2147483647) : jq sc 10 jm_X12_put [.ref 45, .int (jI x), .int (jI y), .int (jI z)] (jh m r T) (gQ (aPut A x y z) m r T) := by
  have c6 := O.c6
  have fs := O.fs
  have jc := J.c
  refine je_in jb_X12_put rfl (ls := [_, _, _, _]) rfl ?_
  refine je_ps jb_X12_put 1 (pc' := 1) (ls' := [_, _, _, _]) (st' := [_]) rfl ?_
  refine je_csP' jb_X12_put rfl (pc' := 4) rfl (by rfl) (by first | decide | exact Nat.ble_eq_true_of_le (by omega)) (c_X12_isList (by omega)) (st' := [_]) rfl ?_
  refine je_ifneb jb_X12_put rfl (t := 13) rfl (pc' := 7) rfl (fun c4 => ?_) (fun c4 => ?_)
  · have hl := of_decide_eq_true c4
    have lo := O.lo hl
    obtain ⟨e54, e55⟩ := J.li hl
    refine je_ps jb_X12_put 1 (pc' := 14) (ls' := [_, _, _, _]) (st' := [_]) rfl ?_
    refine je_get jb_X12_put rfl (pc' := 17) rfl (jh_at (a := 45) rfl) (by rfl) (by rfl) ?_
    refine je_ps jb_X12_put 1 (pc' := 18) (ls' := [_, _, _, _]) (st' := [_, _]) rfl ?_
    refine je_iald jb_X12_put rfl (pc' := 19) rfl (n := 3) (f := _) (jh_at (a := 56) rfl) (by first | omega | exact (hM _ _).1 | exact (hM _ _).2) (by first | omega | exact (hM _ _).1 | exact (hM _ _).2) (by first | omega | exact (hM _ _).1 | exact (hM _ _).2) ?_
    rw [e54]
    refine je_ifge jb_X12_put rfl (t := 25) rfl (pc' := 22) rfl (by first | omega | exact (hM _ _).1 | exact (hM _ _).2) (by first | omega | exact (hM _ _).1 | exact (hM _ _).2) (fun c19 => ?_) (fun c19 => ?_)
    · refine je_ps jb_X12_put 3 (pc' := 28) (ls' := [_, _, _, _]) (st' := [_, _, _]) rfl ?_
      refine je_get jb_X12_put rfl (pc' := 31) rfl (jh_at (a := 45) rfl) (by rfl) (by rfl) ?_
      refine je_ps jb_X12_put 1 (pc' := 32) (ls' := [_, _, _, _]) (st' := [_, _, _, _]) rfl ?_
      refine je_iald jb_X12_put rfl (pc' := 33) rfl (n := 3) (f := _) (jh_at (a := 56) rfl) (by first | omega | exact (hM _ _).1 | exact (hM _ _).2) (by first | omega | exact (hM _ _).1 | exact (hM _ _).2) (by first | omega | exact (hM _ _).1 | exact (hM _ _).2) ?_
      rw [e54]
      refine je_ps jb_X12_put 1 (pc' := 34) (ls' := [_, _, _, _]) (st' := [_, _, _, _]) rfl ?_
      refine je_isub jb_X12_put rfl (pc' := 35) rfl ?_
      refine je_csP' jb_X12_put rfl (pc' := 38) rfl (by rfl) (by first | decide | exact Nat.ble_eq_true_of_le (by omega)) (c_X12_isIn (by omega) (by omega) (by omega)) (st' := [_]) rfl ?_
      refine je_ifneb jb_X12_put rfl (t := 44) rfl (pc' := 41) rfl (fun c38 => ?_) (fun c38 => ?_)
      · have hin := of_decide_eq_true c38
        refine je_ps jb_X12_put 1 (pc' := 45) (ls' := [_, _, _, _]) (st' := [_]) rfl ?_
        refine je_get jb_X12_put rfl (pc' := 48) rfl (jh_at (a := 45) rfl) (by rfl) (by rfl) ?_
        refine je_ps jb_X12_put 2 (pc' := 51) (ls' := [_, _, _, _]) (st' := [_, _, _]) rfl ?_
        refine je_imul jb_X12_put rfl (pc' := 52) rfl ?_
        refine je_ps jb_X12_put 1 (pc' := 53) (ls' := [_, _, _, _]) (st' := [_, _, _]) rfl ?_
        refine je_iadd jb_X12_put rfl (pc' := 54) rfl ?_
        refine je_ps jb_X12_put 1 (pc' := 55) (ls' := [_, _, _, _]) (st' := [_, _, _]) rfl ?_
        refine je_iastI jb_X12_put rfl (pc' := 56) rfl (n := 120) (a := 57) rfl (fun _ => rfl) (by first | omega | exact (hM _ _).1 | exact (hM _ _).2) (by first | omega | exact (hM _ _).1 | exact (hM _ _).2) (by first | omega | exact (hM _ _).1 | exact (hM _ _).2) ?_
        refine je_ps jb_X12_put 1 (pc' := 57) (ls' := [_, _, _, _]) (st' := [_]) rfl ?_
        rw [show aPut A x y z = (1, sL A x.toNat (ju (aL A x.toNat).1 y z, (aL A x.toNat).2)) from by unfold aPut; rw [if_pos hl, if_neg (by omega), if_pos (by omega)]]
        exact je_ret jb_X12_put rfl (by rfl) ⟨_, rfl, rfl, J.sl O hl (fun b h1 h2 => jU_ne h2) (fun l h => by rw [jU_ne (by decide)]) (by rw [jU_ne (by decide)]; exact e54) (fun a h => by rw [jU_same, ju_ne (by omega)]) (fun p p0 p1 => by rw [jU_same]; unfold ju; by_cases c : p = y; (rw [if_pos (by omega), if_pos c]); (rw [if_neg (by omega), if_neg c]; exact e55 p p0 p1)), (kC.rfl' m).u (by decide) _⟩
      · refine je_ps jb_X12_put 1 (pc' := 43) (ls' := [_, _, _, _]) (st' := [_]) rfl ?_
        rw [show aPut A x y z = (-13, A) from by unfold aPut; rw [if_pos hl, if_neg (by omega), if_neg (by have := of_decide_eq_false c38; omega)]]
        exact je_ret jb_X12_put rfl (by rfl) ⟨_, rfl, rfl, J, (kC.rfl' m)⟩
    · refine je_ps jb_X12_put 1 (pc' := 24) (ls' := [_, _, _, _]) (st' := [_]) rfl ?_
      rw [show aPut A x y z = (-11, A) from by unfold aPut; rw [if_pos hl, if_pos (by omega)]]
      exact je_ret jb_X12_put rfl (by rfl) ⟨_, rfl, rfl, J, (kC.rfl' m)⟩
  · refine je_ps jb_X12_put 2 (pc' := 9) (ls' := [_, _, _, _]) (st' := [_, _]) rfl ?_
    refine je_cvP' jb_X12_put rfl (pc' := 12) rfl (jh_at (a := 45) rfl) (by rfl) (by first | decide | exact Nat.ble_eq_true_of_le (by omega)) (c_X12_refused (by omega)) (st' := [_]) rfl ?_
    rw [show aPut A x y z = aRef A (-1) from by unfold aPut; rw [if_neg (of_decide_eq_false c4)]]
    exact je_ret jb_X12_put rfl (by rfl) ⟨_, rfl, rfl, J.ref (by omega), (kC.rfl' m).u (by decide) _⟩
theorem gl_look {A : aT} (O : aOk A) (J : iG A m) {x y : Int} (hx : -2147483648 ≤ x ∧ x ≤ 2147483647) (hy : -2147483648 ≤ y ∧ y ≤ 2147483647) : jq sc 10 jm_X12_look [.ref 45, .int (jI x), .int (jI y)] (jh m r T) (gQl (aLook A x y) m r T) := by
  have c6 := O.c6
  have fs := O.fs
  have jc := J.c
  refine je_in jb_X12_look rfl (ls := [_, _, _]) rfl ?_
  refine je_ps jb_X12_look 1 (pc' := 1) (ls' := [_, _, _]) (st' := [_]) rfl ?_
  refine je_csP' jb_X12_look rfl (pc' := 4) rfl (by rfl) (by first | decide | exact Nat.ble_eq_true_of_le (by omega)) (c_X12_isList (by omega)) (st' := [_]) rfl ?_
  refine je_ifneb jb_X12_look rfl (t := 18) rfl (pc' := 7) rfl (fun c4 => ?_) (fun c4 => ?_)
  · have hl := of_decide_eq_true c4
    have lo := O.lo hl
    obtain ⟨e54, e55⟩ := J.li hl
    refine je_ps jb_X12_look 1 (pc' := 19) (ls' := [_, _, _]) (st' := [_]) rfl ?_
    refine je_get jb_X12_look rfl (pc' := 22) rfl (jh_at (a := 45) rfl) (by rfl) (by rfl) ?_
    refine je_ps jb_X12_look 1 (pc' := 23) (ls' := [_, _, _]) (st' := [_, _]) rfl ?_
    refine je_iald jb_X12_look rfl (pc' := 24) rfl (n := 3) (f := _) (jh_at (a := 56) rfl) (by first | omega | exact (hM _ _).1 | exact (hM _ _).2) (by first | omega | exact (hM _ _).1 | exact (hM _ _).2) (by first | omega | exact (hM _ _).1 | exact (hM _ _).2) ?_
    rw [e54]
    refine je_ifge jb_X12_look rfl (t := 31) rfl (pc' := 27) rfl (by first | omega | exact (hM _ _).1 | exact (hM _ _).2) (by first | omega | exact (hM _ _).1 | exact (hM _ _).2) (fun c24 => ?_) (fun c24 => ?_)
    · refine je_ps jb_X12_look 3 (pc' := 34) (ls' := [_, _, _]) (st' := [_, _, _]) rfl ?_
      refine je_get jb_X12_look rfl (pc' := 37) rfl (jh_at (a := 45) rfl) (by rfl) (by rfl) ?_
      refine je_ps jb_X12_look 1 (pc' := 38) (ls' := [_, _, _]) (st' := [_, _, _, _]) rfl ?_
      refine je_iald jb_X12_look rfl (pc' := 39) rfl (n := 3) (f := _) (jh_at (a := 56) rfl) (by first | omega | exact (hM _ _).1 | exact (hM _ _).2) (by first | omega | exact (hM _ _).1 | exact (hM _ _).2) (by first | omega | exact (hM _ _).1 | exact (hM _ _).2) ?_
      rw [e54]
      refine je_ps jb_X12_look 1 (pc' := 40) (ls' := [_, _, _]) (st' := [_, _, _, _]) rfl ?_
      refine je_isub jb_X12_look rfl (pc' := 41) rfl ?_
      refine je_csP' jb_X12_look rfl (pc' := 44) rfl (by rfl) (by first | decide | exact Nat.ble_eq_true_of_le (by omega)) (c_X12_isIn (by omega) (by omega) (by omega)) (st' := [_]) rfl ?_
      refine je_ifeqb jb_X12_look rfl (t := 62) rfl (pc' := 47) rfl (fun c44 => ?_) (fun c44 => ?_)
      · refine je_ps jb_X12_look 1 (pc' := 65) (ls' := [_, _, _]) (st' := [_]) rfl ?_
        first | (rw [show aLook A x y = ((aL A x.toNat).1 y, A) from by unfold aLook; rw [if_pos hl, if_neg (by omega), if_pos (by omega)]]; exact je_ret jb_X12_look rfl (by rfl) ⟨_, rfl, rfl, J, kC.rfl' m⟩) | (have hno := of_decide_eq_false c44; rw [show aLook A x y = (4000000000000000013, A) from by unfold aLook; rw [if_pos hl, if_neg (by omega), if_neg (by omega)]]; exact je_ret jb_X12_look rfl (by rfl) ⟨_, rfl, rfl, J, kC.rfl' m⟩)
      · have hin := of_decide_eq_true c44
        have lv := lo.2 y
        refine je_ps jb_X12_look 1 (pc' := 48) (ls' := [_, _, _]) (st' := [_]) rfl ?_
        refine je_get jb_X12_look rfl (pc' := 51) rfl (jh_at (a := 45) rfl) (by rfl) (by rfl) ?_
        refine je_ps jb_X12_look 2 (pc' := 54) (ls' := [_, _, _]) (st' := [_, _, _]) rfl ?_
        refine je_imul jb_X12_look rfl (pc' := 55) rfl ?_
        refine je_ps jb_X12_look 1 (pc' := 56) (ls' := [_, _, _]) (st' := [_, _, _]) rfl ?_
        refine je_iadd jb_X12_look rfl (pc' := 57) rfl ?_
        refine je_iald jb_X12_look rfl (pc' := 58) rfl (n := 120) (f := _) (jh_at (a := 57) rfl) (by first | omega | exact (hM _ _).1 | exact (hM _ _).2) (by first | omega | exact (hM _ _).1 | exact (hM _ _).2) (by first | omega | exact (hM _ _).1 | exact (hM _ _).2) ?_
        rw [e55 y (by omega) (by omega)]
        refine je_i2l jb_X12_look rfl (pc' := 59) rfl (by first | omega | exact (hM _ _).1 | exact (hM _ _).2) (by first | omega | exact (hM _ _).1 | exact (hM _ _).2) ?_
        refine je_ps jb_X12_look 1 (pc' := 65) (ls' := [_, _, _]) (st' := [_]) rfl ?_
        first | (rw [show aLook A x y = ((aL A x.toNat).1 y, A) from by unfold aLook; rw [if_pos hl, if_neg (by omega), if_pos (by omega)]]; exact je_ret jb_X12_look rfl (by rfl) ⟨_, rfl, rfl, J, kC.rfl' m⟩) | (have hno := of_decide_eq_false c44; rw [show aLook A x y = (4000000000000000013, A) from by unfold aLook; rw [if_pos hl, if_neg (by omega), if_neg (by omega)]]; exact je_ret jb_X12_look rfl (by rfl) ⟨_, rfl, rfl, J, kC.rfl' m⟩)
    · refine je_ps jb_X12_look 1 (pc' := 30) (ls' := [_, _, _]) (st' := [_]) rfl ?_
      rw [show aLook A x y = (4000000000000000011, A) from by unfold aLook; rw [if_pos hl, if_pos (by omega)]]
      exact je_ret jb_X12_look rfl (by rfl) ⟨_, rfl, rfl, J, (kC.rfl' m)⟩
  · refine je_ps jb_X12_look 3 (pc' := 12) (ls' := [_, _, _]) (st' := [_, _, _]) rfl ?_
    refine je_cvP' jb_X12_look rfl (pc' := 15) rfl (jh_at (a := 45) rfl) (by rfl) (by first | decide | exact Nat.ble_eq_true_of_le (by omega)) (c_X12_refused (by omega)) (st' := [_, _]) rfl ?_
    refine je_i2l jb_X12_look rfl (pc' := 16) rfl (by first | omega | exact (hM _ _).1 | exact (hM _ _).2) (by first | omega | exact (hM _ _).1 | exact (hM _ _).2) ?_
    refine je_lsub jb_X12_look rfl (pc' := 17) rfl ?_
    rw [show aLook A x y = aFarL A (-1) from by unfold aLook; rw [if_neg (of_decide_eq_false c4)]]
    exact je_ret jb_X12_look rfl (by rfl) ⟨_, rfl, rfl, J.ref (by omega), (kC.rfl' m).u (by decide) _⟩
theorem gl_lays {A : aT} (O : aOk A) (J : iG A m) {x y z : Int} (hx : -2147483648 ≤ x ∧ x ≤ 2147483647) (hy : -2147483648 ≤ y ∧ y ≤ 2147483647) (hz : -2147483648 ≤ z ∧ z ≤ 2147483647) : jq sc 12 jm_X12_lays [.ref 45, .int (jI x), .int (jI y), .int (jI z)] (jh m r T) (gQ (aLays A x y z) m r T) := by
  have c6 := O.c6
  have fs := O.fs
  have jc := J.c
  refine je_in jb_X12_lays rfl (ls := [_, _, _, _, _]) rfl ?_
  refine je_ps jb_X12_lays 1 (pc' := 1) (ls' := [_, _, _, _, _]) (st' := [_]) rfl ?_
  refine je_csP' jb_X12_lays rfl (pc' := 4) rfl (by rfl) (by first | decide | exact Nat.ble_eq_true_of_le (by omega)) (c_X12_isList (by omega)) (st' := [_]) rfl ?_
  refine je_ifeqb jb_X12_lays rfl (t := 15) rfl (pc' := 7) rfl (fun c4 => ?_) (fun c4 => ?_)
  · refine je_ps jb_X12_lays 2 (pc' := 17) (ls' := [_, _, _, _, _]) (st' := [_, _]) rfl ?_
    refine je_cvP' jb_X12_lays rfl (pc' := 20) rfl (jh_at (a := 45) rfl) (by rfl) (by first | decide | exact Nat.ble_eq_true_of_le (by omega)) (c_X12_refused (by omega)) (st' := [_]) rfl ?_
    first | (rw [show aLays A x y z = aRef A (-1) from by unfold aLays; rw [if_neg (fun h => of_decide_eq_false c4 h.1)]]; exact je_ret jb_X12_lays rfl (by rfl) ⟨_, rfl, rfl, J.ref (by omega), (kC.rfl' m).u (by decide) _⟩) | (rw [show aLays A x y z = aRef A (-1) from by unfold aLays; rw [if_neg (fun h => of_decide_eq_false c12 h.2)]]; exact je_ret jb_X12_lays rfl (by rfl) ⟨_, rfl, rfl, J.ref (by omega), (kC.rfl' m).u (by decide) _⟩)
  · refine je_ps jb_X12_lays 2 (pc' := 9) (ls' := [_, _, _, _, _]) (st' := [_, _]) rfl ?_
    refine je_cvP' jb_X12_lays rfl (pc' := 12) rfl (jh_at (a := 45) rfl) (by rfl) (by first | decide | exact Nat.ble_eq_true_of_le (by omega)) (k_gisWalk J.c (by omega) hz) (st' := [_]) rfl ?_
    refine je_ifneb jb_X12_lays rfl (t := 21) rfl (pc' := 15) rfl (fun c12 => ?_) (fun c12 => ?_)
    · have hl := of_decide_eq_true c4
      have lo := O.lo hl
      obtain ⟨e54, e55⟩ := J.li hl
      have hv := of_decide_eq_true c12
      have gv := J.wk O hv
      have gn := fS_n fs
      have e2n := J.st.1.2.1
      refine je_ps jb_X12_lays 1 (pc' := 22) (ls' := [_, _, _, _, _]) (st' := [_]) rfl ?_
      refine je_get jb_X12_lays rfl (pc' := 25) rfl (jh_at (a := 45) rfl) (by rfl) (by rfl) ?_
      refine je_ps jb_X12_lays 1 (pc' := 26) (ls' := [_, _, _, _, _]) (st' := [_, _]) rfl ?_
      refine je_iald jb_X12_lays rfl (pc' := 27) rfl (n := 3) (f := _) (jh_at (a := 56) rfl) (by first | omega | exact (hM _ _).1 | exact (hM _ _).2) (by first | omega | exact (hM _ _).1 | exact (hM _ _).2) (by first | omega | exact (hM _ _).1 | exact (hM _ _).2) ?_
      rw [e54]
      refine je_ifge jb_X12_lays rfl (t := 33) rfl (pc' := 30) rfl (by first | omega | exact (hM _ _).1 | exact (hM _ _).2) (by first | omega | exact (hM _ _).1 | exact (hM _ _).2) (fun c27 => ?_) (fun c27 => ?_)
      · refine je_ps jb_X12_lays 1 (pc' := 34) (ls' := [_, _, _, _, _]) (st' := [_]) rfl ?_
        refine je_iflt jb_X12_lays rfl (t := 52) rfl (pc' := 37) rfl (by first | omega | exact (hM _ _).1 | exact (hM _ _).2) (by first | omega | exact (hM _ _).1 | exact (hM _ _).2) (fun c34 => ?_) (fun c34 => ?_)
        · refine je_ps jb_X12_lays 1 (pc' := 54) (ls' := [_, _, _, _, _]) (st' := [_]) rfl ?_
          rw [show aLays A x y z = (-13, A) from by unfold aLays; rw [if_pos ⟨hl, hv⟩, if_neg (by omega), if_neg (by omega)]]
          exact je_ret jb_X12_lays rfl (by rfl) ⟨_, rfl, rfl, J, (kC.rfl' m)⟩
        · refine je_ps jb_X12_lays 1 (pc' := 38) (ls' := [_, _, _, _, _]) (st' := [_]) rfl ?_
          refine je_get jb_X12_lays rfl (pc' := 41) rfl (jh_at (a := 45) rfl) (by rfl) (by rfl) ?_
          rw [e2n]
          refine je_ps jb_X12_lays 1 (pc' := 42) (ls' := [_, _, _, _, _]) (st' := [_, _]) rfl ?_
          refine je_get jb_X12_lays rfl (pc' := 45) rfl (jh_at (a := 45) rfl) (by rfl) (by rfl) ?_
          refine je_ps jb_X12_lays 1 (pc' := 46) (ls' := [_, _, _, _, _]) (st' := [_, _, _]) rfl ?_
          refine je_iald jb_X12_lays rfl (pc' := 47) rfl (n := 3) (f := _) (jh_at (a := 56) rfl) (by first | omega | exact (hM _ _).1 | exact (hM _ _).2) (by first | omega | exact (hM _ _).1 | exact (hM _ _).2) (by first | omega | exact (hM _ _).1 | exact (hM _ _).2) ?_
          rw [e54]
          refine je_ps jb_X12_lays 1 (pc' := 48) (ls' := [_, _, _, _, _]) (st' := [_, _, _]) rfl ?_
          refine je_isub jb_X12_lays rfl (pc' := 49) rfl ?_
          refine je_icmple jb_X12_lays rfl (t := 55) rfl (pc' := 52) rfl (by first | omega | exact (hM _ _).1 | exact (hM _ _).2) (by first | omega | exact (hM _ _).1 | exact (hM _ _).2) (by first | omega | exact (hM _ _).1 | exact (hM _ _).2) (by first | omega | exact (hM _ _).1 | exact (hM _ _).2) (fun c49 => ?_) (fun c49 => ?_)
          · refine je_ps jb_X12_lays 2 (pc' := 58) (ls' := [_, _, _, _, _]) (st' := []) rfl ?_
            refine je_loop (fun (v : Nat) ls σ' => ls = [.ref 45, .int (jI x), .int (jI y), .int (jI z), .int (jI v)] ∧ σ' = jh (jU m 57 (fLay (m 57) (aW A z.toNat).1 (40 * x + y) v)) r T) ((aN A).toNat) ⟨rfl, jh_eq (jU_sf (by rw [show ((0 : Nat) : Int) = 0 from rfl, gLay_0])).symm⟩ (fun v hv ls σ' gv kv => ?_) (fun ls σ' gv => ?_)
            · obtain ⟨rfl, rfl⟩ := gv
              have e2v : jU m 57 (fLay (m 57) (aW A z.toNat).1 (40 * x + y) v) 45 2 = aN A := by rw [jU_ne (by decide)]; exact e2n
              have e45 : jU m 57 (fLay (m 57) (aW A z.toNat).1 (40 * x + y) v) 47 (25 * z + (v : Int)) = (aW A z.toNat).1 (v : Int) := by rw [jU_ne (by decide)]; exact gv.2.2.1 (v : Int) (by omega) (by omega)
              refine je_ps jb_X12_lays 2 (pc' := 61) (ls' := [_, _, _, _, _]) (st' := [_, _]) rfl ?_
              refine je_get jb_X12_lays rfl (pc' := 64) rfl (jh_at (a := 45) rfl) (by rfl) (by rfl) ?_
              refine je_icmpge jb_X12_lays rfl (t := 99) rfl (pc' := 67) rfl (by first | omega | exact (hM _ _).1 | exact (hM _ _).2) (by first | omega | exact (hM _ _).1 | exact (hM _ _).2) (by first | omega | exact (hM _ _).1 | exact (hM _ _).2) (by first | omega | exact (hM _ _).1 | exact (hM _ _).2) (fun c64 => ?_) (fun c64 => ?_)
              · first | (exfalso; omega) | (cases c64; done) | (exfalso; simp_all; done)
              · refine je_ps jb_X12_lays 1 (pc' := 68) (ls' := [_, _, _, _, _]) (st' := [_]) rfl ?_
                refine je_get jb_X12_lays rfl (pc' := 71) rfl (jh_at (a := 45) rfl) (by rfl) (by rfl) ?_
                refine je_ps jb_X12_lays 2 (pc' := 74) (ls' := [_, _, _, _, _]) (st' := [_, _, _]) rfl ?_
                refine je_imul jb_X12_lays rfl (pc' := 75) rfl ?_
                refine je_ps jb_X12_lays 1 (pc' := 76) (ls' := [_, _, _, _, _]) (st' := [_, _, _]) rfl ?_
                refine je_iadd jb_X12_lays rfl (pc' := 77) rfl ?_
                refine je_ps jb_X12_lays 1 (pc' := 79) (ls' := [_, _, _, _, _]) (st' := [_, _, _]) rfl ?_
                refine je_iadd jb_X12_lays rfl (pc' := 80) rfl ?_
                refine je_ps jb_X12_lays 1 (pc' := 81) (ls' := [_, _, _, _, _]) (st' := [_, _, _]) rfl ?_
                refine je_get jb_X12_lays rfl (pc' := 84) rfl (jh_at (a := 45) rfl) (by rfl) (by rfl) ?_
                refine je_ps jb_X12_lays 2 (pc' := 87) (ls' := [_, _, _, _, _]) (st' := [_, _, _, _, _]) rfl ?_
                refine je_imul jb_X12_lays rfl (pc' := 88) rfl ?_
                refine je_ps jb_X12_lays 1 (pc' := 90) (ls' := [_, _, _, _, _]) (st' := [_, _, _, _, _]) rfl ?_
                refine je_iadd jb_X12_lays rfl (pc' := 91) rfl ?_
                refine je_iald jb_X12_lays rfl (pc' := 92) rfl (n := 225) (f := _) (jh_at (a := 47) rfl) (by first | omega | exact (hM _ _).1 | exact (hM _ _).2) (by first | omega | exact (hM _ _).1 | exact (hM _ _).2) (by first | omega | exact (hM _ _).1 | exact (hM _ _).2) ?_
                rw [e45]
                refine je_iastI jb_X12_lays rfl (pc' := 93) rfl (n := 120) (a := 57) rfl (fun _ => rfl) (by first | omega | exact (hM _ _).1 | exact (hM _ _).2) (by first | omega | exact (hM _ _).1 | exact (hM _ _).2) (by first | omega | exact (hM _ _).1 | exact (hM _ _).2) ?_
                refine je_iinc jb_X12_lays rfl (pc' := 96) rfl rfl (ls' := [_, _, _, _, _]) rfl ?_
                refine je_ps jb_X12_lays 1 (pc' := 58) (ls' := [_, _, _, _, _]) (st' := []) rfl ?_
                refine kv _ _ ⟨rfl, jh_eq ?_⟩
                rw [jU_same, jU_jU]
                exact congrArg (jU _ 57) (gLay_s (by omega) rfl rfl)
            · obtain ⟨rfl, rfl⟩ := gv
              have e2v : jU m 57 (fLay (m 57) (aW A z.toNat).1 (40 * x + y) ((aN A).toNat : Nat)) 45 2 = aN A := by rw [jU_ne (by decide)]; exact e2n
              refine je_ps jb_X12_lays 2 (pc' := 61) (ls' := [_, _, _, _, _]) (st' := [_, _]) rfl ?_
              refine je_get jb_X12_lays rfl (pc' := 64) rfl (jh_at (a := 45) rfl) (by rfl) (by rfl) ?_
              refine je_icmpge jb_X12_lays rfl (t := 99) rfl (pc' := 67) rfl (by first | omega | exact (hM _ _).1 | exact (hM _ _).2) (by first | omega | exact (hM _ _).1 | exact (hM _ _).2) (by first | omega | exact (hM _ _).1 | exact (hM _ _).2) (by first | omega | exact (hM _ _).1 | exact (hM _ _).2) (fun c64 => ?_) (fun c64 => ?_)
              · refine je_ps jb_X12_lays 1 (pc' := 100) (ls' := [_, _, _, _, _]) (st' := [_]) rfl ?_
                refine je_get jb_X12_lays rfl (pc' := 103) rfl (jh_at (a := 45) rfl) (by rfl) (by rfl) ?_
                rw [e2v, show (((aN A).toNat : Nat) : Int) = aN A by omega, show aLays A x y z = (aN A, sL A x.toNat (fLay (aL A x.toNat).1 (aW A z.toNat).1 y (aN A), (aL A x.toNat).2)) from by unfold aLays; rw [if_pos ⟨hl, hv⟩, if_neg (by omega), if_pos (by omega)]]
                exact je_ret jb_X12_lays rfl (by rfl) ⟨_, rfl, rfl, J.sl O hl (fun b h1 h2 => jU_ne h2) (fun l h => by rw [jU_ne (by decide)]) (by rw [jU_ne (by decide)]; exact e54) (fun a h => by rw [jU_same]; exact gLay_out (by omega)) (fun p p0 p1 => by rw [jU_same]; unfold fLay; by_cases c : y ≤ p ∧ p < y + aN A; (rw [if_pos (by omega), if_pos c, show 40 * x + p - (40 * x + y) = p - y by omega]); (rw [if_neg (by omega), if_neg c]; exact e55 p p0 p1)), (kC.rfl' m).u (by decide) _⟩
              · first | (exfalso; omega) | (cases c64; done) | (exfalso; simp_all; done)
          · refine je_ps jb_X12_lays 1 (pc' := 54) (ls' := [_, _, _, _, _]) (st' := [_]) rfl ?_
            rw [show aLays A x y z = (-13, A) from by unfold aLays; rw [if_pos ⟨hl, hv⟩, if_neg (by omega), if_neg (by omega)]]
            exact je_ret jb_X12_lays rfl (by rfl) ⟨_, rfl, rfl, J, (kC.rfl' m)⟩
      · refine je_ps jb_X12_lays 1 (pc' := 32) (ls' := [_, _, _, _, _]) (st' := [_]) rfl ?_
        rw [show aLays A x y z = (-11, A) from by unfold aLays; rw [if_pos ⟨hl, hv⟩, if_pos (by omega)]]
        exact je_ret jb_X12_lays rfl (by rfl) ⟨_, rfl, rfl, J, (kC.rfl' m)⟩
    · refine je_ps jb_X12_lays 2 (pc' := 17) (ls' := [_, _, _, _, _]) (st' := [_, _]) rfl ?_
      refine je_cvP' jb_X12_lays rfl (pc' := 20) rfl (jh_at (a := 45) rfl) (by rfl) (by first | decide | exact Nat.ble_eq_true_of_le (by omega)) (c_X12_refused (by omega)) (st' := [_]) rfl ?_
      first | (rw [show aLays A x y z = aRef A (-1) from by unfold aLays; rw [if_neg (fun h => of_decide_eq_false c4 h.1)]]; exact je_ret jb_X12_lays rfl (by rfl) ⟨_, rfl, rfl, J.ref (by omega), (kC.rfl' m).u (by decide) _⟩) | (rw [show aLays A x y z = aRef A (-1) from by unfold aLays; rw [if_neg (fun h => of_decide_eq_false c12 h.2)]]; exact je_ret jb_X12_lays rfl (by rfl) ⟨_, rfl, rfl, J.ref (by omega), (kC.rfl' m).u (by decide) _⟩)
theorem gl_judge {A : aT} (O : aOk A) (J : iG A m) {x y : Int} (hx : -2147483648 ≤ x ∧ x ≤ 2147483647) (hy : -2147483648 ≤ y ∧ y ≤ 2147483647) : jq sc 12 jm_X12_judge [.ref 45, .int (jI x), .int (jI y)] (jh m r T) (gQ (aJudge A x y) m r T) := by
  have c6 := O.c6
  have fs := O.fs
  have jc := J.c
  refine je_in jb_X12_judge rfl (ls := [_, _, _, _]) rfl ?_
  refine je_ps jb_X12_judge 1 (pc' := 1) (ls' := [_, _, _, _]) (st' := [_]) rfl ?_
  refine je_csP' jb_X12_judge rfl (pc' := 4) rfl (by rfl) (by first | decide | exact Nat.ble_eq_true_of_le (by omega)) (c_X12_isList (by omega)) (st' := [_]) rfl ?_
  refine je_ifeqb jb_X12_judge rfl (t := 15) rfl (pc' := 7) rfl (fun c4 => ?_) (fun c4 => ?_)
  · refine je_ps jb_X12_judge 2 (pc' := 17) (ls' := [_, _, _, _]) (st' := [_, _]) rfl ?_
    refine je_cvP' jb_X12_judge rfl (pc' := 20) rfl (jh_at (a := 45) rfl) (by rfl) (by first | decide | exact Nat.ble_eq_true_of_le (by omega)) (c_X12_refused (by omega)) (st' := [_]) rfl ?_
    first | (rw [show aJudge A x y = aRef A (-1) from by unfold aJudge; rw [if_neg (fun h => of_decide_eq_false c4 h.1)]]; exact je_ret jb_X12_judge rfl (by rfl) ⟨_, rfl, rfl, J.ref (by omega), (kC.rfl' m).u (by decide) _⟩) | (rw [show aJudge A x y = aRef A (-1) from by unfold aJudge; rw [if_neg (fun h => of_decide_eq_false c12 h.2)]]; exact je_ret jb_X12_judge rfl (by rfl) ⟨_, rfl, rfl, J.ref (by omega), (kC.rfl' m).u (by decide) _⟩)
  · refine je_ps jb_X12_judge 2 (pc' := 9) (ls' := [_, _, _, _]) (st' := [_, _]) rfl ?_
    refine je_cvP' jb_X12_judge rfl (pc' := 12) rfl (jh_at (a := 45) rfl) (by rfl) (by first | decide | exact Nat.ble_eq_true_of_le (by omega)) (k_gisWalk J.c (by omega) hy) (st' := [_]) rfl ?_
    refine je_ifneb jb_X12_judge rfl (t := 21) rfl (pc' := 15) rfl (fun c12 => ?_) (fun c12 => ?_)
    · have hl := of_decide_eq_true c4
      have lo := O.lo hl
      obtain ⟨e54, e55⟩ := J.li hl
      have hv := of_decide_eq_true c12
      have gv := J.wk O hv
      have gn := fS_n fs
      have e2n := J.st.1.2.1
      have ov := O.wo (i := y.toNat) (by omega)
      refine je_ps jb_X12_judge 1 (pc' := 22) (ls' := [_, _, _, _]) (st' := [_]) rfl ?_
      refine je_get jb_X12_judge rfl (pc' := 25) rfl (jh_at (a := 45) rfl) (by rfl) (by rfl) ?_
      refine je_ps jb_X12_judge 1 (pc' := 26) (ls' := [_, _, _, _]) (st' := [_, _]) rfl ?_
      refine je_iald jb_X12_judge rfl (pc' := 27) rfl (n := 3) (f := _) (jh_at (a := 56) rfl) (by first | omega | exact (hM _ _).1 | exact (hM _ _).2) (by first | omega | exact (hM _ _).1 | exact (hM _ _).2) (by first | omega | exact (hM _ _).1 | exact (hM _ _).2) ?_
      rw [e54]
      refine je_ifge jb_X12_judge rfl (t := 33) rfl (pc' := 30) rfl (by first | omega | exact (hM _ _).1 | exact (hM _ _).2) (by first | omega | exact (hM _ _).1 | exact (hM _ _).2) (fun c27 => ?_) (fun c27 => ?_)
      · refine je_ps jb_X12_judge 2 (pc' := 35) (ls' := [_, _, _, _]) (st' := []) rfl ?_
        refine je_loop (fun (p : Nat) ls σ' => ls = [.ref 45, .int (jI x), .int (jI y), .int (jI p)] ∧ σ' = jh m r T ∧ ∀ q : Nat, q < p → jP1 (aN A) (aL A x.toNat).1 (aW A y.toNat).1 q = false) ((aL A x.toNat).2.toNat) ⟨rfl, rfl, fun q hq => by omega⟩ (fun p hp ls σ' gp kp => ?_) (fun ls σ' gp => ?_)
        · obtain ⟨rfl, rfl, fp⟩ := gp
          have l1 := lo.2 (p : Int)
          have l2 := ov.1.1 (p : Int)
          have bk : 2 ≤ aK A ∧ aK A ≤ 5 := fs.2
          refine je_ps jb_X12_judge 2 (pc' := 37) (ls' := [_, _, _, _]) (st' := [_, _]) rfl ?_
          refine je_get jb_X12_judge rfl (pc' := 40) rfl (jh_at (a := 45) rfl) (by rfl) (by rfl) ?_
          refine je_ps jb_X12_judge 1 (pc' := 41) (ls' := [_, _, _, _]) (st' := [_, _, _]) rfl ?_
          refine je_iald jb_X12_judge rfl (pc' := 42) rfl (n := 3) (f := _) (jh_at (a := 56) rfl) (by first | omega | exact (hM _ _).1 | exact (hM _ _).2) (by first | omega | exact (hM _ _).1 | exact (hM _ _).2) (by first | omega | exact (hM _ _).1 | exact (hM _ _).2) ?_
          refine je_icmpge jb_X12_judge rfl (t := 86) rfl (pc' := 45) rfl (by first | omega | exact (hM _ _).1 | exact (hM _ _).2) (by first | omega | exact (hM _ _).1 | exact (hM _ _).2) (by first | omega | exact (hM _ _).1 | exact (hM _ _).2) (by first | omega | exact (hM _ _).1 | exact (hM _ _).2) (fun c42 => ?_) (fun c42 => ?_)
          · first | (exfalso; omega) | (cases c42; done) | (exfalso; simp_all; done)
          · refine je_ps jb_X12_judge 2 (pc' := 47) (ls' := [_, _, _, _]) (st' := [_, _]) rfl ?_
            refine je_get jb_X12_judge rfl (pc' := 50) rfl (jh_at (a := 45) rfl) (by rfl) (by rfl) ?_
            refine je_icmpge jb_X12_judge rfl (t := 78) rfl (pc' := 53) rfl (by first | omega | exact (hM _ _).1 | exact (hM _ _).2) (by first | omega | exact (hM _ _).1 | exact (hM _ _).2) (by first | omega | exact (hM _ _).1 | exact (hM _ _).2) (by first | omega | exact (hM _ _).1 | exact (hM _ _).2) (fun c50 => ?_) (fun c50 => ?_)
            · refine je_ps jb_X12_judge 1 (pc' := 79) (ls' := [_, _, _, _]) (st' := [_]) rfl ?_
              have ev : jP1 (aN A) (aL A x.toNat).1 (aW A y.toNat).1 p = true := by unfold jP1; first | (rw [decide_eq_true (by omega)]; rfl) | (rw [decide_eq_false (by omega), decide_eq_true (by omega)]; rfl)
              have ef : fFst (jP1 (aN A) (aL A x.toNat).1 (aW A y.toNat).1) 0 (aL A x.toNat).2.toNat = p := fFst_hit (P := jP1 (aN A) (aL A x.toNat).1 (aW A y.toNat).1) ev _ 0 (by omega) (by omega) (fun q _ hq => fp q hq)
              rw [show aJudge A x y = ((p : Int), A) from by unfold aJudge; unfold jJ; rw [if_pos ⟨hl, hv⟩, if_neg (by omega), ef, if_pos hp]]
              exact je_ret jb_X12_judge rfl (by rfl) ⟨_, rfl, rfl, J, (kC.rfl' m)⟩
            · refine je_ps jb_X12_judge 1 (pc' := 54) (ls' := [_, _, _, _]) (st' := [_]) rfl ?_
              refine je_get jb_X12_judge rfl (pc' := 57) rfl (jh_at (a := 45) rfl) (by rfl) (by rfl) ?_
              refine je_ps jb_X12_judge 2 (pc' := 60) (ls' := [_, _, _, _]) (st' := [_, _, _]) rfl ?_
              refine je_imul jb_X12_judge rfl (pc' := 61) rfl ?_
              refine je_ps jb_X12_judge 1 (pc' := 62) (ls' := [_, _, _, _]) (st' := [_, _, _]) rfl ?_
              refine je_iadd jb_X12_judge rfl (pc' := 63) rfl ?_
              refine je_iald jb_X12_judge rfl (pc' := 64) rfl (n := 120) (f := _) (jh_at (a := 57) rfl) (by first | omega | exact (hM _ _).1 | exact (hM _ _).2) (by first | omega | exact (hM _ _).1 | exact (hM _ _).2) (by first | omega | exact (hM _ _).1 | exact (hM _ _).2) ?_
              rw [e55 (p : Int) (by omega) (by omega)]
              refine je_ps jb_X12_judge 1 (pc' := 65) (ls' := [_, _, _, _]) (st' := [_, _]) rfl ?_
              refine je_get jb_X12_judge rfl (pc' := 68) rfl (jh_at (a := 45) rfl) (by rfl) (by rfl) ?_
              refine je_ps jb_X12_judge 2 (pc' := 71) (ls' := [_, _, _, _]) (st' := [_, _, _, _]) rfl ?_
              refine je_imul jb_X12_judge rfl (pc' := 72) rfl ?_
              refine je_ps jb_X12_judge 1 (pc' := 73) (ls' := [_, _, _, _]) (st' := [_, _, _, _]) rfl ?_
              refine je_iadd jb_X12_judge rfl (pc' := 74) rfl ?_
              refine je_iald jb_X12_judge rfl (pc' := 75) rfl (n := 225) (f := _) (jh_at (a := 47) rfl) (by first | omega | exact (hM _ _).1 | exact (hM _ _).2) (by first | omega | exact (hM _ _).1 | exact (hM _ _).2) (by first | omega | exact (hM _ _).1 | exact (hM _ _).2) ?_
              rw [gv.2.2.1 (p : Int) (by omega) (by omega)]
              refine je_icmpeq jb_X12_judge rfl (t := 80) rfl (pc' := 78) rfl (by first | omega | exact (hM _ _).1 | exact (hM _ _).2) (by first | omega | exact (hM _ _).1 | exact (hM _ _).2) (by first | omega | exact (hM _ _).1 | exact (hM _ _).2) (by first | omega | exact (hM _ _).1 | exact (hM _ _).2) (fun c75 => ?_) (fun c75 => ?_)
              · refine je_iinc jb_X12_judge rfl (pc' := 83) rfl rfl (ls' := [_, _, _, _]) rfl ?_
                refine je_ps jb_X12_judge 1 (pc' := 35) (ls' := [_, _, _, _]) (st' := []) rfl ?_
                refine kp _ _ ⟨rfl, rfl, fun q hq => ?_⟩
                by_cases c : q = p
                · subst c; unfold jP1; rw [decide_eq_false (by omega), decide_eq_false (by omega)]; rfl
                · exact fp q (by omega)
              · refine je_ps jb_X12_judge 1 (pc' := 79) (ls' := [_, _, _, _]) (st' := [_]) rfl ?_
                have ev : jP1 (aN A) (aL A x.toNat).1 (aW A y.toNat).1 p = true := by unfold jP1; first | (rw [decide_eq_true (by omega)]; rfl) | (rw [decide_eq_false (by omega), decide_eq_true (by omega)]; rfl)
                have ef : fFst (jP1 (aN A) (aL A x.toNat).1 (aW A y.toNat).1) 0 (aL A x.toNat).2.toNat = p := fFst_hit (P := jP1 (aN A) (aL A x.toNat).1 (aW A y.toNat).1) ev _ 0 (by omega) (by omega) (fun q _ hq => fp q hq)
                rw [show aJudge A x y = ((p : Int), A) from by unfold aJudge; unfold jJ; rw [if_pos ⟨hl, hv⟩, if_neg (by omega), ef, if_pos hp]]
                exact je_ret jb_X12_judge rfl (by rfl) ⟨_, rfl, rfl, J, (kC.rfl' m)⟩
        · obtain ⟨rfl, rfl, fp⟩ := gp
          refine je_ps jb_X12_judge 2 (pc' := 37) (ls' := [_, _, _, _]) (st' := [_, _]) rfl ?_
          refine je_get jb_X12_judge rfl (pc' := 40) rfl (jh_at (a := 45) rfl) (by rfl) (by rfl) ?_
          refine je_ps jb_X12_judge 1 (pc' := 41) (ls' := [_, _, _, _]) (st' := [_, _, _]) rfl ?_
          refine je_iald jb_X12_judge rfl (pc' := 42) rfl (n := 3) (f := _) (jh_at (a := 56) rfl) (by first | omega | exact (hM _ _).1 | exact (hM _ _).2) (by first | omega | exact (hM _ _).1 | exact (hM _ _).2) (by first | omega | exact (hM _ _).1 | exact (hM _ _).2) ?_
          refine je_icmpge jb_X12_judge rfl (t := 86) rfl (pc' := 45) rfl (by first | omega | exact (hM _ _).1 | exact (hM _ _).2) (by first | omega | exact (hM _ _).1 | exact (hM _ _).2) (by first | omega | exact (hM _ _).1 | exact (hM _ _).2) (by first | omega | exact (hM _ _).1 | exact (hM _ _).2) (fun c42 => ?_) (fun c42 => ?_)
          · refine je_ps jb_X12_judge 1 (pc' := 88) (ls' := [_, _, _, _]) (st' := [_]) rfl ?_
            have ef : fFst (jP1 (aN A) (aL A x.toNat).1 (aW A y.toNat).1) 0 (aL A x.toNat).2.toNat = 0 + (aL A x.toNat).2.toNat := fFst_none (P := jP1 (aN A) (aL A x.toNat).1 (aW A y.toNat).1) _ 0 (fun q _ hq => fp q (by omega))
            rw [show aJudge A x y = (-9, A) from by unfold aJudge; unfold jJ; rw [if_pos ⟨hl, hv⟩, if_neg (by omega), ef, if_neg (by omega)]]
            exact je_ret jb_X12_judge rfl (by rfl) ⟨_, rfl, rfl, J, (kC.rfl' m)⟩
          · first | (exfalso; omega) | (cases c42; done) | (exfalso; simp_all; done)
      · refine je_ps jb_X12_judge 1 (pc' := 32) (ls' := [_, _, _, _]) (st' := [_]) rfl ?_
        rw [show aJudge A x y = (-11, A) from by unfold aJudge; rw [if_pos ⟨hl, hv⟩, if_pos (by omega)]]
        exact je_ret jb_X12_judge rfl (by rfl) ⟨_, rfl, rfl, J, (kC.rfl' m)⟩
    · refine je_ps jb_X12_judge 2 (pc' := 17) (ls' := [_, _, _, _]) (st' := [_, _]) rfl ?_
      refine je_cvP' jb_X12_judge rfl (pc' := 20) rfl (jh_at (a := 45) rfl) (by rfl) (by first | decide | exact Nat.ble_eq_true_of_le (by omega)) (c_X12_refused (by omega)) (st' := [_]) rfl ?_
      first | (rw [show aJudge A x y = aRef A (-1) from by unfold aJudge; rw [if_neg (fun h => of_decide_eq_false c4 h.1)]]; exact je_ret jb_X12_judge rfl (by rfl) ⟨_, rfl, rfl, J.ref (by omega), (kC.rfl' m).u (by decide) _⟩) | (rw [show aJudge A x y = aRef A (-1) from by unfold aJudge; rw [if_neg (fun h => of_decide_eq_false c12 h.2)]]; exact je_ret jb_X12_judge rfl (by rfl) ⟨_, rfl, rfl, J.ref (by omega), (kC.rfl' m).u (by decide) _⟩)
end C73
