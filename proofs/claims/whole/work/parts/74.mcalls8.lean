/-! CALLS of the other side: a walk out of a list -/
section C74
variable {sc : Nat × (Nat → Int32)} {m : Nat → Int → Int} {r : Nat → Nat → Value} {T : jx_H} {σ : jx_H}
def fLd (n k : Int) (f : Int → Int) (z : Int) (v : Nat) : Bool := decide (z ≤ n) && fAll (fun p => decide (0 ≤ fRAt f z (p : Int) ∧ fRAt f z (p : Int) < k)) v
theorem fLd_s {n k z : Int} {f : Int → Int} {v : Nat} (h : (v : Int) < z) : fLd n k f z (v + 1) = (fLd n k f z v && decide (0 ≤ f (v : Int) ∧ f (v : Int) ≤ k - 1)) := by
  have e : fRAt f z (v : Int) = f (v : Int) := if_pos ⟨by omega, h⟩
  have e2 : decide (0 ≤ fRAt f z (v : Int) ∧ fRAt f z (v : Int) < k) = decide (0 ≤ f (v : Int) ∧ f (v : Int) ≤ k - 1) := by
    rw [e]
    exact decide_eq_decide.mpr (by omega)
  unfold fLd fAll
  rw [List.range_succ, List.all_append, ← Bool.and_assoc, ← e2]
  simp
theorem fLd_0 {n k z : Int} {f : Int → Int} : fLd n k f z 0 = decide (z ≤ n) := by
  unfold fLd fAll
  simp
theorem fLd_m {n k z : Int} {f : Int → Int} {v w : Nat} (h : fLd n k f z v = false) (hw : v ≤ w) (hz : (w : Int) ≤ z) : fLd n k f z w = false := by
  induction w with
  | zero => rwa [show v = 0 by omega] at h
  | succ w ih =>
    by_cases c : v = w + 1
    · rwa [c] at h
    · rw [fLd_s (by omega), ih (by omega) (by omega)]
      rfl
theorem fLd_n {n k z : Int} {f : Int → Int} {v : Nat} (h : fLd n k f z v = true) : z ≤ n := by
  unfold fLd at h
  exact of_decide_eq_true (Bool.and_eq_true _ _ ▸ h).1
/-- a walk's row out of a list -/
def gFm (m : Nat → Int → Int) (F : Int → Int) (v : Int) : Nat → Int → Int := jU (gW m 6 (fun _ => 0) 0) 47 (fLay (gW m 6 (fun _ => 0) 0 47) F 150 v)
theorem gFm_ne (m : Nat → Int → Int) (F : Int → Int) (v : Int) {b : Nat} (h1 : b ≠ 47) (h2 : b ≠ 48) : gFm m F v b = m b := by
  unfold gFm
  rw [jU_ne h1, gW_43 _ _ _ _ h1 h2]
theorem gR_fm {F : Int → Int} {z y : Int} (h0 : 0 ≤ z) (h1 : z ≤ 25) : gR (jU (gFm m F z) 48 (ju (gFm m F z 48) 6 y)) 6 (fRAt F z) y := by
  refine ⟨by omega, fun p p0 p1 => ?_, by rw [jU_same, ju_same]⟩
  have g : gW m 6 (fun _ => 0) 0 47 (25 * 6 + p) = 0 := (gR.w (m := m) (w := 6) (L := fun _ => 0) (e := 0) (by omega)).2.1 p p0 p1
  rw [jU_ne (by decide)]
  unfold gFm
  rw [jU_same]
  unfold fLay fRAt
  by_cases c : p < z
  · rw [if_pos (by omega), if_pos (by omega), show 25 * 6 + p - 150 = p by omega]
  · rw [if_neg (by omega), if_neg (by omega)]
    exact g
theorem gY_fm {F : Int → Int} {z y : Int} : gY m (jU (gFm m F z) 48 (ju (gFm m F z 48) 6 y)) := by
  have x := (gX.rfl' m).w (w := 6) (by decide) (fun _ => 0) 0
  refine ⟨fun b q1 q2 q3 q4 q5 q6 => by rw [jU_ne q2, gFm_ne _ _ _ q1 q2], fun w p hw p0 p1 => ?_, fun w hw => ?_⟩
  · rw [jU_ne (by decide)]
    unfold gFm
    rw [jU_same, gLay_out (by omega)]
    exact x.2.1 w p hw p0 p1
  · rw [jU_same, ju_ne (by omega)]
    unfold gFm
    rw [jU_ne (by decide)]
    exact x.2.2 w hw
theorem gl_from {A : aT} (O : aOk A) (J : iG A m) {x y : Int} (hx : -2147483648 ≤ x ∧ x ≤ 2147483647) (hy : -2147483648 ≤ y ∧ y ≤ 2147483647) : jq sc 12 jm_X12_from [.ref 45, .int (jI x), .int (jI y)] (jh m r T) (gQ (aFrom A x y) m r T) := by
  have c6 := O.c6
  have fs := O.fs
  have jc := J.c
  refine je_in jb_X12_from rfl (ls := [_, _, _, _, _]) rfl ?_
  refine je_ps jb_X12_from 1 (pc' := 1) (ls' := [_, _, _, _, _]) (st' := [_]) rfl ?_
  refine je_csP' jb_X12_from rfl (pc' := 4) rfl (by rfl) (by first | decide | exact Nat.ble_eq_true_of_le (by omega)) (c_X12_isList (by omega)) (st' := [_]) rfl ?_
  refine je_ifeqb jb_X12_from rfl (t := 15) rfl (pc' := 7) rfl (fun c4 => ?_) (fun c4 => ?_)
  · refine je_ps jb_X12_from 2 (pc' := 17) (ls' := [_, _, _, _, _]) (st' := [_, _]) rfl ?_
    refine je_cvP' jb_X12_from rfl (pc' := 20) rfl (jh_at (a := 45) rfl) (by rfl) (by first | decide | exact Nat.ble_eq_true_of_le (by omega)) (c_X12_refused (by omega)) (st' := [_]) rfl ?_
    first | (rw [show aFrom A x y = aRef A (-1) from by unfold aFrom; rw [if_neg (fun h => of_decide_eq_false c4 h.1)]]; exact je_ret jb_X12_from rfl (by rfl) ⟨_, rfl, rfl, J.ref (by omega), (kC.rfl' m).u (by decide) _⟩) | (rw [show aFrom A x y = aRef A (-1) from by unfold aFrom; rw [if_neg (fun h => by rw [h.2] at c12; cases c12)]]; exact je_ret jb_X12_from rfl (by rfl) ⟨_, rfl, rfl, J.ref (by omega), (kC.rfl' m).u (by decide) _⟩)
  · refine je_ps jb_X12_from 2 (pc' := 9) (ls' := [_, _, _, _, _]) (st' := [_, _]) rfl ?_
    refine je_cvP' jb_X12_from rfl (pc' := 12) rfl (jh_at (a := 45) rfl) (by rfl) (by first | decide | exact Nat.ble_eq_true_of_le (by omega)) (c_X12_isCorner J.st hy) (st' := [_]) rfl ?_
    refine je_ifneb jb_X12_from rfl (t := 21) rfl (pc' := 15) rfl (fun c12 => ?_) (fun c12 => ?_)
    · have hl := of_decide_eq_true c4
      have lo := O.lo hl
      obtain ⟨e54, e55⟩ := J.li hl
      have gn := fS_n fs
      have bk : 2 ≤ aK A ∧ aK A ≤ 5 := fs.2
      have e2n := J.st.1.2.1
      have e4k := J.st.1.2.2.2
      refine je_ps jb_X12_from 1 (pc' := 22) (ls' := [_, _, _, _, _]) (st' := [_]) rfl ?_
      refine je_get jb_X12_from rfl (pc' := 25) rfl (jh_at (a := 45) rfl) (by rfl) (by rfl) ?_
      refine je_ps jb_X12_from 1 (pc' := 27) (ls' := [_, _, _, _, _]) (st' := [_, _]) rfl ?_
      refine je_icmpne jb_X12_from rfl (t := 37) rfl (pc' := 30) rfl (by first | omega | exact (hM _ _).1 | exact (hM _ _).2) (by first | omega | exact (hM _ _).1 | exact (hM _ _).2) (by first | omega | exact (hM _ _).1 | exact (hM _ _).2) (by first | omega | exact (hM _ _).1 | exact (hM _ _).2) (fun c27 => ?_) (fun c27 => ?_)
      · refine je_ps jb_X12_from 1 (pc' := 38) (ls' := [_, _, _, _, _]) (st' := [_]) rfl ?_
        refine je_get jb_X12_from rfl (pc' := 41) rfl (jh_at (a := 45) rfl) (by rfl) (by rfl) ?_
        refine je_ps jb_X12_from 1 (pc' := 42) (ls' := [_, _, _, _, _]) (st' := [_, _]) rfl ?_
        refine je_iald jb_X12_from rfl (pc' := 43) rfl (n := 3) (f := _) (jh_at (a := 56) rfl) (by first | omega | exact (hM _ _).1 | exact (hM _ _).2) (by first | omega | exact (hM _ _).1 | exact (hM _ _).2) (by first | omega | exact (hM _ _).1 | exact (hM _ _).2) ?_
        rw [e54]
        refine je_ifge jb_X12_from rfl (t := 49) rfl (pc' := 46) rfl (by first | omega | exact (hM _ _).1 | exact (hM _ _).2) (by first | omega | exact (hM _ _).1 | exact (hM _ _).2) (fun c43 => ?_) (fun c43 => ?_)
        · refine je_ps jb_X12_from 1 (pc' := 50) (ls' := [_, _, _, _, _]) (st' := [_]) rfl ?_
          refine je_get jb_X12_from rfl (pc' := 53) rfl (jh_at (a := 45) rfl) (by rfl) (by rfl) ?_
          refine je_ps jb_X12_from 1 (pc' := 54) (ls' := [_, _, _, _, _]) (st' := [_, _]) rfl ?_
          refine je_iald jb_X12_from rfl (pc' := 55) rfl (n := 3) (f := _) (jh_at (a := 56) rfl) (by first | omega | exact (hM _ _).1 | exact (hM _ _).2) (by first | omega | exact (hM _ _).1 | exact (hM _ _).2) (by first | omega | exact (hM _ _).1 | exact (hM _ _).2) ?_
          rw [e54]
          refine je_ps jb_X12_from 1 (pc' := 56) (ls' := [_, _, _, _, _]) (st' := [_, _]) rfl ?_
          refine je_get jb_X12_from rfl (pc' := 59) rfl (jh_at (a := 45) rfl) (by rfl) (by rfl) ?_
          refine je_icmpgt jb_X12_from rfl (t := 66) rfl (pc' := 62) rfl (by first | omega | exact (hM _ _).1 | exact (hM _ _).2) (by first | omega | exact (hM _ _).1 | exact (hM _ _).2) (by first | omega | exact (hM _ _).1 | exact (hM _ _).2) (by first | omega | exact (hM _ _).1 | exact (hM _ _).2) (fun c59 => ?_) (fun c59 => ?_)
          · refine je_ps jb_X12_from 4 (pc' := 71) (ls' := [_, _, _, _, _]) (st' := []) rfl ?_
            refine je_loop (fun (v : Nat) ls σ' => ls = [.ref 45, .int (jI x), .int (jI y), .int (jI (jb (fLd (aN A) (aK A) (aL A x.toNat).1 (aL A x.toNat).2 v))), .int (jI v)] ∧ σ' = jh m r T) ((aL A x.toNat).2.toNat) ⟨by first | (rw [fLd_0, decide_eq_true (show (aL A x.toNat).2 ≤ aN A by omega)]; rfl) | (rw [fLd_0, decide_eq_false (show ¬ (aL A x.toNat).2 ≤ aN A by omega)]; rfl), rfl⟩ (fun v hv ls σ' gv kv => ?_) (fun ls σ' gv => ?_)
            · obtain ⟨rfl, rfl⟩ := gv
              have lv := lo.2 (v : Int)
              refine je_ps jb_X12_from 2 (pc' := 74) (ls' := [_, _, _, _, _]) (st' := [_, _]) rfl ?_
              refine je_get jb_X12_from rfl (pc' := 77) rfl (jh_at (a := 45) rfl) (by rfl) (by rfl) ?_
              refine je_ps jb_X12_from 1 (pc' := 78) (ls' := [_, _, _, _, _]) (st' := [_, _, _]) rfl ?_
              refine je_iald jb_X12_from rfl (pc' := 79) rfl (n := 3) (f := _) (jh_at (a := 56) rfl) (by first | omega | exact (hM _ _).1 | exact (hM _ _).2) (by first | omega | exact (hM _ _).1 | exact (hM _ _).2) (by first | omega | exact (hM _ _).1 | exact (hM _ _).2) ?_
              rw [e54]
              refine je_icmpge jb_X12_from rfl (t := 115) rfl (pc' := 82) rfl (by first | omega | exact (hM _ _).1 | exact (hM _ _).2) (by first | omega | exact (hM _ _).1 | exact (hM _ _).2) (by first | omega | exact (hM _ _).1 | exact (hM _ _).2) (by first | omega | exact (hM _ _).1 | exact (hM _ _).2) (fun c79 => ?_) (fun c79 => ?_)
              · first | (exfalso; omega) | (cases c79; done) | (exfalso; simp_all; done)
              · refine je_ps jb_X12_from 1 (pc' := 83) (ls' := [_, _, _, _, _]) (st' := [_]) rfl ?_
                refine je_ifeqb jb_X12_from rfl (t := 115) rfl (pc' := 86) rfl (fun c83 => ?_) (fun c83 => ?_)
                · refine je_ps jb_X12_from 1 (pc' := 116) (ls' := [_, _, _, _, _]) (st' := [_]) rfl ?_
                  refine je_ifneb jb_X12_from rfl (t := 126) rfl (pc' := 119) rfl (fun c116 => ?_) (fun c116 => ?_)
                  · first | (exfalso; omega) | (cases c116; done) | (exfalso; simp_all; done)
                  · have hb : fBT (aN A) (aK A) (aL A x.toNat).1 (aL A x.toNat).2 = false := by first | exact c116 | exact fLd_m (w := (aL A x.toNat).2.toNat) c116 (by omega) (by omega)
                    refine je_ps jb_X12_from 2 (pc' := 122) (ls' := [_, _, _, _, _]) (st' := [_, _]) rfl ?_
                    refine je_cvP' jb_X12_from rfl (pc' := 125) rfl (jh_at (a := 45) rfl) (by rfl) (by first | decide | exact Nat.ble_eq_true_of_le (by omega)) (c_X12_refused (by omega)) (st' := [_]) rfl ?_
                    rw [show aFrom A x y = aRef A (-3) from by unfold aFrom; rw [if_pos ⟨hl, c12⟩, if_pos (by omega), if_neg (by omega), if_neg (by rw [hb]; decide)]]
                    exact je_ret jb_X12_from rfl (by rfl) ⟨_, rfl, rfl, J.ref (by omega), (kC.rfl' m).u (by decide) _⟩
                · refine je_ps jb_X12_from 1 (pc' := 87) (ls' := [_, _, _, _, _]) (st' := [_]) rfl ?_
                  refine je_get jb_X12_from rfl (pc' := 90) rfl (jh_at (a := 45) rfl) (by rfl) (by rfl) ?_
                  refine je_ps jb_X12_from 2 (pc' := 93) (ls' := [_, _, _, _, _]) (st' := [_, _, _]) rfl ?_
                  refine je_imul jb_X12_from rfl (pc' := 94) rfl ?_
                  refine je_ps jb_X12_from 1 (pc' := 96) (ls' := [_, _, _, _, _]) (st' := [_, _, _]) rfl ?_
                  refine je_iadd jb_X12_from rfl (pc' := 97) rfl ?_
                  refine je_iald jb_X12_from rfl (pc' := 98) rfl (n := 120) (f := _) (jh_at (a := 57) rfl) (by first | omega | exact (hM _ _).1 | exact (hM _ _).2) (by first | omega | exact (hM _ _).1 | exact (hM _ _).2) (by first | omega | exact (hM _ _).1 | exact (hM _ _).2) ?_
                  rw [e55 (v : Int) (by omega) (by omega)]
                  refine je_ps jb_X12_from 2 (pc' := 100) (ls' := [_, _, _, _, _]) (st' := [_, _, _]) rfl ?_
                  refine je_get jb_X12_from rfl (pc' := 103) rfl (jh_at (a := 45) rfl) (by rfl) (by rfl) ?_
                  rw [e4k]
                  refine je_ps jb_X12_from 1 (pc' := 104) (ls' := [_, _, _, _, _]) (st' := [_, _, _, _]) rfl ?_
                  refine je_isub jb_X12_from rfl (pc' := 105) rfl ?_
                  refine je_csP' jb_X12_from rfl (pc' := 108) rfl (by rfl) (by first | decide | exact Nat.ble_eq_true_of_le (by omega)) (c_X12_isIn (by omega) (by omega) (by omega)) (st' := [_]) rfl ?_
                  refine je_ps jb_X12_from 1 (pc' := 109) (ls' := [_, _, _, _, _]) (st' := []) rfl ?_
                  refine je_iinc jb_X12_from rfl (pc' := 112) rfl rfl (ls' := [_, _, _, _, _]) rfl ?_
                  refine je_ps jb_X12_from 1 (pc' := 71) (ls' := [_, _, _, _, _]) (st' := []) rfl ?_
                  rw [fLd_s (by omega), c83, Bool.true_and] at kv
                  exact kv _ _ ⟨rfl, rfl⟩
            · obtain ⟨rfl, rfl⟩ := gv
              refine je_ps jb_X12_from 2 (pc' := 74) (ls' := [_, _, _, _, _]) (st' := [_, _]) rfl ?_
              refine je_get jb_X12_from rfl (pc' := 77) rfl (jh_at (a := 45) rfl) (by rfl) (by rfl) ?_
              refine je_ps jb_X12_from 1 (pc' := 78) (ls' := [_, _, _, _, _]) (st' := [_, _, _]) rfl ?_
              refine je_iald jb_X12_from rfl (pc' := 79) rfl (n := 3) (f := _) (jh_at (a := 56) rfl) (by first | omega | exact (hM _ _).1 | exact (hM _ _).2) (by first | omega | exact (hM _ _).1 | exact (hM _ _).2) (by first | omega | exact (hM _ _).1 | exact (hM _ _).2) ?_
              rw [e54]
              refine je_icmpge jb_X12_from rfl (t := 115) rfl (pc' := 82) rfl (by first | omega | exact (hM _ _).1 | exact (hM _ _).2) (by first | omega | exact (hM _ _).1 | exact (hM _ _).2) (by first | omega | exact (hM _ _).1 | exact (hM _ _).2) (by first | omega | exact (hM _ _).1 | exact (hM _ _).2) (fun c79 => ?_) (fun c79 => ?_)
              · refine je_ps jb_X12_from 1 (pc' := 116) (ls' := [_, _, _, _, _]) (st' := [_]) rfl ?_
                refine je_ifneb jb_X12_from rfl (t := 126) rfl (pc' := 119) rfl (fun c116 => ?_) (fun c116 => ?_)
                · have hb : fBT (aN A) (aK A) (aL A x.toNat).1 (aL A x.toNat).2 = true := c116
                  have hn := fLd_n c116
                  refine je_ps jb_X12_from 2 (pc' := 129) (ls' := [_, _, _, _, _]) (st' := [_, _]) rfl ?_
                  refine je_cvP' jb_X12_from rfl (pc' := 132) rfl (jh_at (a := 45) rfl) (by rfl) (by first | decide | exact Nat.ble_eq_true_of_le (by omega)) (k_gbares (by omega)) (st' := []) rfl ?_
                  refine je_ps jb_X12_from 2 (pc' := 135) (ls' := [_, _, _, _, _]) (st' := []) rfl ?_
                  refine je_loop (fun (w : Nat) ls σ' => ls = [.ref 45, .int (jI x), .int (jI y), .int (jI (jb (fLd (aN A) (aK A) (aL A x.toNat).1 (aL A x.toNat).2 (aL A x.toNat).2.toNat))), .int (jI w)] ∧ σ' = jh (gFm m (aL A x.toNat).1 w) r T) ((aL A x.toNat).2.toNat) ⟨rfl, jh_eq (jU_sf (by rw [show ((0 : Nat) : Int) = 0 from rfl, gLay_0])).symm⟩ (fun w hw ls σ' gw kw => ?_) (fun ls σ' gw => ?_)
                  · obtain ⟨rfl, rfl⟩ := gw
                    have q54 : gFm m (aL A x.toNat).1 w 56 x = (aL A x.toNat).2 := by rw [gFm_ne _ _ _ (by decide) (by decide)]; exact e54
                    refine je_ps jb_X12_from 2 (pc' := 138) (ls' := [_, _, _, _, _]) (st' := [_, _]) rfl ?_
                    refine je_get jb_X12_from rfl (pc' := 141) rfl (jh_at (a := 45) rfl) (by rfl) (by rfl) ?_
                    refine je_ps jb_X12_from 1 (pc' := 142) (ls' := [_, _, _, _, _]) (st' := [_, _, _]) rfl ?_
                    refine je_iald jb_X12_from rfl (pc' := 143) rfl (n := 3) (f := _) (jh_at (a := 56) rfl) (by first | omega | exact (hM _ _).1 | exact (hM _ _).2) (by first | omega | exact (hM _ _).1 | exact (hM _ _).2) (by first | omega | exact (hM _ _).1 | exact (hM _ _).2) ?_
                    rw [q54]
                    refine je_icmpge jb_X12_from rfl (t := 175) rfl (pc' := 146) rfl (by first | omega | exact (hM _ _).1 | exact (hM _ _).2) (by first | omega | exact (hM _ _).1 | exact (hM _ _).2) (by first | omega | exact (hM _ _).1 | exact (hM _ _).2) (by first | omega | exact (hM _ _).1 | exact (hM _ _).2) (fun c143 => ?_) (fun c143 => ?_)
                    · first | (exfalso; omega) | (cases c143; done) | (exfalso; simp_all; done)
                    · refine je_ps jb_X12_from 1 (pc' := 147) (ls' := [_, _, _, _, _]) (st' := [_]) rfl ?_
                      refine je_get jb_X12_from rfl (pc' := 150) rfl (jh_at (a := 45) rfl) (by rfl) (by rfl) ?_
                      refine je_ps jb_X12_from 2 (pc' := 155) (ls' := [_, _, _, _, _]) (st' := [_, _, _]) rfl ?_
                      refine je_iadd jb_X12_from rfl (pc' := 156) rfl ?_
                      refine je_ps jb_X12_from 1 (pc' := 157) (ls' := [_, _, _, _, _]) (st' := [_, _, _]) rfl ?_
                      refine je_get jb_X12_from rfl (pc' := 160) rfl (jh_at (a := 45) rfl) (by rfl) (by rfl) ?_
                      refine je_ps jb_X12_from 2 (pc' := 163) (ls' := [_, _, _, _, _]) (st' := [_, _, _, _, _]) rfl ?_
                      refine je_imul jb_X12_from rfl (pc' := 164) rfl ?_
                      refine je_ps jb_X12_from 1 (pc' := 166) (ls' := [_, _, _, _, _]) (st' := [_, _, _, _, _]) rfl ?_
                      refine je_iadd jb_X12_from rfl (pc' := 167) rfl ?_
                      refine je_iald jb_X12_from rfl (pc' := 168) rfl (n := 120) (f := _) (jh_at (a := 57) rfl) (by first | omega | exact (hM _ _).1 | exact (hM _ _).2) (by first | omega | exact (hM _ _).1 | exact (hM _ _).2) (by first | omega | exact (hM _ _).1 | exact (hM _ _).2) ?_
                      rw [show gFm m (aL A x.toNat).1 w 57 (40 * x + (w : Int)) = (aL A x.toNat).1 (w : Int) by rw [gFm_ne _ _ _ (by decide) (by decide)]; exact e55 (w : Int) (by omega) (by omega)]
                      refine je_iastI jb_X12_from rfl (pc' := 169) rfl (n := 225) (a := 47) rfl (fun _ => rfl) (by first | omega | exact (hM _ _).1 | exact (hM _ _).2) (by first | omega | exact (hM _ _).1 | exact (hM _ _).2) (by first | omega | exact (hM _ _).1 | exact (hM _ _).2) ?_
                      refine je_iinc jb_X12_from rfl (pc' := 172) rfl rfl (ls' := [_, _, _, _, _]) rfl ?_
                      refine je_ps jb_X12_from 1 (pc' := 135) (ls' := [_, _, _, _, _]) (st' := []) rfl ?_
                      refine kw _ _ ⟨rfl, jh_eq ?_⟩
                      unfold gFm
                      rw [jU_same, jU_jU]
                      exact congrArg (jU _ 47) (gLay_s (by omega) rfl rfl)
                  · obtain ⟨rfl, rfl⟩ := gw
                    have q54 : gFm m (aL A x.toNat).1 ((aL A x.toNat).2.toNat : Nat) 56 x = (aL A x.toNat).2 := by rw [gFm_ne _ _ _ (by decide) (by decide)]; exact e54
                    refine je_ps jb_X12_from 2 (pc' := 138) (ls' := [_, _, _, _, _]) (st' := [_, _]) rfl ?_
                    refine je_get jb_X12_from rfl (pc' := 141) rfl (jh_at (a := 45) rfl) (by rfl) (by rfl) ?_
                    refine je_ps jb_X12_from 1 (pc' := 142) (ls' := [_, _, _, _, _]) (st' := [_, _, _]) rfl ?_
                    refine je_iald jb_X12_from rfl (pc' := 143) rfl (n := 3) (f := _) (jh_at (a := 56) rfl) (by first | omega | exact (hM _ _).1 | exact (hM _ _).2) (by first | omega | exact (hM _ _).1 | exact (hM _ _).2) (by first | omega | exact (hM _ _).1 | exact (hM _ _).2) ?_
                    rw [q54]
                    refine je_icmpge jb_X12_from rfl (t := 175) rfl (pc' := 146) rfl (by first | omega | exact (hM _ _).1 | exact (hM _ _).2) (by first | omega | exact (hM _ _).1 | exact (hM _ _).2) (by first | omega | exact (hM _ _).1 | exact (hM _ _).2) (by first | omega | exact (hM _ _).1 | exact (hM _ _).2) (fun c143 => ?_) (fun c143 => ?_)
                    · rw [show (((aL A x.toNat).2.toNat : Nat) : Int) = (aL A x.toNat).2 by omega]
                      refine je_ps jb_X12_from 1 (pc' := 176) (ls' := [_, _, _, _, _]) (st' := [_]) rfl ?_
                      refine je_get jb_X12_from rfl (pc' := 179) rfl (jh_at (a := 45) rfl) (by rfl) (by rfl) ?_
                      refine je_ps jb_X12_from 2 (pc' := 182) (ls' := [_, _, _, _, _]) (st' := [_, _, _]) rfl ?_
                      refine je_iastI jb_X12_from rfl (pc' := 183) rfl (n := 9) (a := 48) rfl (fun _ => rfl) (by first | omega | exact (hM _ _).1 | exact (hM _ _).2) (by first | omega | exact (hM _ _).1 | exact (hM _ _).2) (by first | omega | exact (hM _ _).1 | exact (hM _ _).2) ?_
                      refine je_ps jb_X12_from 2 (pc' := 186) (ls' := [_, _, _, _, _]) (st' := [_, _]) rfl ?_
                      refine je_cvP' jb_X12_from rfl (pc' := 189) rfl (jh_at (a := 45) rfl) (by rfl) (by first | decide | exact Nat.ble_eq_true_of_le (by omega)) (k_gcomes (c := (aC A : Int)) (gR_fm (by omega) (by omega)) (by rw [jU_ne (by decide), gFm_ne _ _ _ (by decide) (by decide)]; exact J.c) (by omega) (by omega) (by omega)) (st' := [_]) rfl ?_
                      rw [show aFrom A x y = ((aC A : Int), sAdd A (fRAt (aL A x.toNat).1 (aL A x.toNat).2, y)) from by unfold aFrom; rw [if_pos ⟨hl, c12⟩, if_pos (by omega), if_neg (by omega), if_pos hb]]
                      exact je_ret jb_X12_from rfl (by rfl) ⟨_, rfl, rfl, (J.y O.c6 gY_fm).add (by omega) (fRAt (aL A x.toNat).1 (aL A x.toNat).2, y), ((((kC.rfl' m).y gY_fm)).w _ _ _).u (by decide) _⟩
                    · first | (exfalso; omega) | (cases c143; done) | (exfalso; simp_all; done)
                · have hb : fBT (aN A) (aK A) (aL A x.toNat).1 (aL A x.toNat).2 = false := by first | exact c116 | exact fLd_m (w := (aL A x.toNat).2.toNat) c116 (by omega) (by omega)
                  refine je_ps jb_X12_from 2 (pc' := 122) (ls' := [_, _, _, _, _]) (st' := [_, _]) rfl ?_
                  refine je_cvP' jb_X12_from rfl (pc' := 125) rfl (jh_at (a := 45) rfl) (by rfl) (by first | decide | exact Nat.ble_eq_true_of_le (by omega)) (c_X12_refused (by omega)) (st' := [_]) rfl ?_
                  rw [show aFrom A x y = aRef A (-3) from by unfold aFrom; rw [if_pos ⟨hl, c12⟩, if_pos (by omega), if_neg (by omega), if_neg (by rw [hb]; decide)]]
                  exact je_ret jb_X12_from rfl (by rfl) ⟨_, rfl, rfl, J.ref (by omega), (kC.rfl' m).u (by decide) _⟩
              · first | (exfalso; omega) | (cases c79; done) | (exfalso; simp_all; done)
          · refine je_ps jb_X12_from 5 (pc' := 71) (ls' := [_, _, _, _, _]) (st' := []) rfl ?_
            refine je_loop (fun (v : Nat) ls σ' => ls = [.ref 45, .int (jI x), .int (jI y), .int (jI (jb (fLd (aN A) (aK A) (aL A x.toNat).1 (aL A x.toNat).2 v))), .int (jI v)] ∧ σ' = jh m r T) ((aL A x.toNat).2.toNat) ⟨by first | (rw [fLd_0, decide_eq_true (show (aL A x.toNat).2 ≤ aN A by omega)]; rfl) | (rw [fLd_0, decide_eq_false (show ¬ (aL A x.toNat).2 ≤ aN A by omega)]; rfl), rfl⟩ (fun v hv ls σ' gv kv => ?_) (fun ls σ' gv => ?_)
            · obtain ⟨rfl, rfl⟩ := gv
              have lv := lo.2 (v : Int)
              refine je_ps jb_X12_from 2 (pc' := 74) (ls' := [_, _, _, _, _]) (st' := [_, _]) rfl ?_
              refine je_get jb_X12_from rfl (pc' := 77) rfl (jh_at (a := 45) rfl) (by rfl) (by rfl) ?_
              refine je_ps jb_X12_from 1 (pc' := 78) (ls' := [_, _, _, _, _]) (st' := [_, _, _]) rfl ?_
              refine je_iald jb_X12_from rfl (pc' := 79) rfl (n := 3) (f := _) (jh_at (a := 56) rfl) (by first | omega | exact (hM _ _).1 | exact (hM _ _).2) (by first | omega | exact (hM _ _).1 | exact (hM _ _).2) (by first | omega | exact (hM _ _).1 | exact (hM _ _).2) ?_
              rw [e54]
              refine je_icmpge jb_X12_from rfl (t := 115) rfl (pc' := 82) rfl (by first | omega | exact (hM _ _).1 | exact (hM _ _).2) (by first | omega | exact (hM _ _).1 | exact (hM _ _).2) (by first | omega | exact (hM _ _).1 | exact (hM _ _).2) (by first | omega | exact (hM _ _).1 | exact (hM _ _).2) (fun c79 => ?_) (fun c79 => ?_)
              · first | (exfalso; omega) | (cases c79; done) | (exfalso; simp_all; done)
              · refine je_ps jb_X12_from 1 (pc' := 83) (ls' := [_, _, _, _, _]) (st' := [_]) rfl ?_
                refine je_ifeqb jb_X12_from rfl (t := 115) rfl (pc' := 86) rfl (fun c83 => ?_) (fun c83 => ?_)
                · refine je_ps jb_X12_from 1 (pc' := 116) (ls' := [_, _, _, _, _]) (st' := [_]) rfl ?_
                  refine je_ifneb jb_X12_from rfl (t := 126) rfl (pc' := 119) rfl (fun c116 => ?_) (fun c116 => ?_)
                  · first | (exfalso; omega) | (cases c116; done) | (exfalso; simp_all; done)
                  · have hb : fBT (aN A) (aK A) (aL A x.toNat).1 (aL A x.toNat).2 = false := by first | exact c116 | exact fLd_m (w := (aL A x.toNat).2.toNat) c116 (by omega) (by omega)
                    refine je_ps jb_X12_from 2 (pc' := 122) (ls' := [_, _, _, _, _]) (st' := [_, _]) rfl ?_
                    refine je_cvP' jb_X12_from rfl (pc' := 125) rfl (jh_at (a := 45) rfl) (by rfl) (by first | decide | exact Nat.ble_eq_true_of_le (by omega)) (c_X12_refused (by omega)) (st' := [_]) rfl ?_
                    rw [show aFrom A x y = aRef A (-3) from by unfold aFrom; rw [if_pos ⟨hl, c12⟩, if_pos (by omega), if_neg (by omega), if_neg (by rw [hb]; decide)]]
                    exact je_ret jb_X12_from rfl (by rfl) ⟨_, rfl, rfl, J.ref (by omega), (kC.rfl' m).u (by decide) _⟩
                · refine je_ps jb_X12_from 1 (pc' := 87) (ls' := [_, _, _, _, _]) (st' := [_]) rfl ?_
                  refine je_get jb_X12_from rfl (pc' := 90) rfl (jh_at (a := 45) rfl) (by rfl) (by rfl) ?_
                  refine je_ps jb_X12_from 2 (pc' := 93) (ls' := [_, _, _, _, _]) (st' := [_, _, _]) rfl ?_
                  refine je_imul jb_X12_from rfl (pc' := 94) rfl ?_
                  refine je_ps jb_X12_from 1 (pc' := 96) (ls' := [_, _, _, _, _]) (st' := [_, _, _]) rfl ?_
                  refine je_iadd jb_X12_from rfl (pc' := 97) rfl ?_
                  refine je_iald jb_X12_from rfl (pc' := 98) rfl (n := 120) (f := _) (jh_at (a := 57) rfl) (by first | omega | exact (hM _ _).1 | exact (hM _ _).2) (by first | omega | exact (hM _ _).1 | exact (hM _ _).2) (by first | omega | exact (hM _ _).1 | exact (hM _ _).2) ?_
                  rw [e55 (v : Int) (by omega) (by omega)]
                  refine je_ps jb_X12_from 2 (pc' := 100) (ls' := [_, _, _, _, _]) (st' := [_, _, _]) rfl ?_
                  refine je_get jb_X12_from rfl (pc' := 103) rfl (jh_at (a := 45) rfl) (by rfl) (by rfl) ?_
                  rw [e4k]
                  refine je_ps jb_X12_from 1 (pc' := 104) (ls' := [_, _, _, _, _]) (st' := [_, _, _, _]) rfl ?_
                  refine je_isub jb_X12_from rfl (pc' := 105) rfl ?_
                  refine je_csP' jb_X12_from rfl (pc' := 108) rfl (by rfl) (by first | decide | exact Nat.ble_eq_true_of_le (by omega)) (c_X12_isIn (by omega) (by omega) (by omega)) (st' := [_]) rfl ?_
                  refine je_ps jb_X12_from 1 (pc' := 109) (ls' := [_, _, _, _, _]) (st' := []) rfl ?_
                  refine je_iinc jb_X12_from rfl (pc' := 112) rfl rfl (ls' := [_, _, _, _, _]) rfl ?_
                  refine je_ps jb_X12_from 1 (pc' := 71) (ls' := [_, _, _, _, _]) (st' := []) rfl ?_
                  rw [fLd_s (by omega), c83, Bool.true_and] at kv
                  exact kv _ _ ⟨rfl, rfl⟩
            · obtain ⟨rfl, rfl⟩ := gv
              refine je_ps jb_X12_from 2 (pc' := 74) (ls' := [_, _, _, _, _]) (st' := [_, _]) rfl ?_
              refine je_get jb_X12_from rfl (pc' := 77) rfl (jh_at (a := 45) rfl) (by rfl) (by rfl) ?_
              refine je_ps jb_X12_from 1 (pc' := 78) (ls' := [_, _, _, _, _]) (st' := [_, _, _]) rfl ?_
              refine je_iald jb_X12_from rfl (pc' := 79) rfl (n := 3) (f := _) (jh_at (a := 56) rfl) (by first | omega | exact (hM _ _).1 | exact (hM _ _).2) (by first | omega | exact (hM _ _).1 | exact (hM _ _).2) (by first | omega | exact (hM _ _).1 | exact (hM _ _).2) ?_
              rw [e54]
              refine je_icmpge jb_X12_from rfl (t := 115) rfl (pc' := 82) rfl (by first | omega | exact (hM _ _).1 | exact (hM _ _).2) (by first | omega | exact (hM _ _).1 | exact (hM _ _).2) (by first | omega | exact (hM _ _).1 | exact (hM _ _).2) (by first | omega | exact (hM _ _).1 | exact (hM _ _).2) (fun c79 => ?_) (fun c79 => ?_)
              · refine je_ps jb_X12_from 1 (pc' := 116) (ls' := [_, _, _, _, _]) (st' := [_]) rfl ?_
                refine je_ifneb jb_X12_from rfl (t := 126) rfl (pc' := 119) rfl (fun c116 => ?_) (fun c116 => ?_)
                · have hb : fBT (aN A) (aK A) (aL A x.toNat).1 (aL A x.toNat).2 = true := c116
                  have hn := fLd_n c116
                  refine je_ps jb_X12_from 2 (pc' := 129) (ls' := [_, _, _, _, _]) (st' := [_, _]) rfl ?_
                  refine je_cvP' jb_X12_from rfl (pc' := 132) rfl (jh_at (a := 45) rfl) (by rfl) (by first | decide | exact Nat.ble_eq_true_of_le (by omega)) (k_gbares (by omega)) (st' := []) rfl ?_
                  refine je_ps jb_X12_from 2 (pc' := 135) (ls' := [_, _, _, _, _]) (st' := []) rfl ?_
                  refine je_loop (fun (w : Nat) ls σ' => ls = [.ref 45, .int (jI x), .int (jI y), .int (jI (jb (fLd (aN A) (aK A) (aL A x.toNat).1 (aL A x.toNat).2 (aL A x.toNat).2.toNat))), .int (jI w)] ∧ σ' = jh (gFm m (aL A x.toNat).1 w) r T) ((aL A x.toNat).2.toNat) ⟨rfl, jh_eq (jU_sf (by rw [show ((0 : Nat) : Int) = 0 from rfl, gLay_0])).symm⟩ (fun w hw ls σ' gw kw => ?_) (fun ls σ' gw => ?_)
                  · obtain ⟨rfl, rfl⟩ := gw
                    have q54 : gFm m (aL A x.toNat).1 w 56 x = (aL A x.toNat).2 := by rw [gFm_ne _ _ _ (by decide) (by decide)]; exact e54
                    refine je_ps jb_X12_from 2 (pc' := 138) (ls' := [_, _, _, _, _]) (st' := [_, _]) rfl ?_
                    refine je_get jb_X12_from rfl (pc' := 141) rfl (jh_at (a := 45) rfl) (by rfl) (by rfl) ?_
                    refine je_ps jb_X12_from 1 (pc' := 142) (ls' := [_, _, _, _, _]) (st' := [_, _, _]) rfl ?_
                    refine je_iald jb_X12_from rfl (pc' := 143) rfl (n := 3) (f := _) (jh_at (a := 56) rfl) (by first | omega | exact (hM _ _).1 | exact (hM _ _).2) (by first | omega | exact (hM _ _).1 | exact (hM _ _).2) (by first | omega | exact (hM _ _).1 | exact (hM _ _).2) ?_
                    rw [q54]
                    refine je_icmpge jb_X12_from rfl (t := 175) rfl (pc' := 146) rfl (by first | omega | exact (hM _ _).1 | exact (hM _ _).2) (by first | omega | exact (hM _ _).1 | exact (hM _ _).2) (by first | omega | exact (hM _ _).1 | exact (hM _ _).2) (by first | omega | exact (hM _ _).1 | exact (hM _ _).2) (fun c143 => ?_) (fun c143 => ?_)
                    · first | (exfalso; omega) | (cases c143; done) | (exfalso; simp_all; done)
                    · refine je_ps jb_X12_from 1 (pc' := 147) (ls' := [_, _, _, _, _]) (st' := [_]) rfl ?_
                      refine je_get jb_X12_from rfl (pc' := 150) rfl (jh_at (a := 45) rfl) (by rfl) (by rfl) ?_
                      refine je_ps jb_X12_from 2 (pc' := 155) (ls' := [_, _, _, _, _]) (st' := [_, _, _]) rfl ?_
                      refine je_iadd jb_X12_from rfl (pc' := 156) rfl ?_
                      refine je_ps jb_X12_from 1 (pc' := 157) (ls' := [_, _, _, _, _]) (st' := [_, _, _]) rfl ?_
                      refine je_get jb_X12_from rfl (pc' := 160) rfl (jh_at (a := 45) rfl) (by rfl) (by rfl) ?_
                      refine je_ps jb_X12_from 2 (pc' := 163) (ls' := [_, _, _, _, _]) (st' := [_, _, _, _, _]) rfl ?_
                      refine je_imul jb_X12_from rfl (pc' := 164) rfl ?_
                      refine je_ps jb_X12_from 1 (pc' := 166) (ls' := [_, _, _, _, _]) (st' := [_, _, _, _, _]) rfl ?_
                      refine je_iadd jb_X12_from rfl (pc' := 167) rfl ?_
                      refine je_iald jb_X12_from rfl (pc' := 168) rfl (n := 120) (f := _) (jh_at (a := 57) rfl) (by first | omega | exact (hM _ _).1 | exact (hM _ _).2) (by first | omega | exact (hM _ _).1 | exact (hM _ _).2) (by first | omega | exact (hM _ _).1 | exact (hM _ _).2) ?_
                      rw [show gFm m (aL A x.toNat).1 w 57 (40 * x + (w : Int)) = (aL A x.toNat).1 (w : Int) by rw [gFm_ne _ _ _ (by decide) (by decide)]; exact e55 (w : Int) (by omega) (by omega)]
                      refine je_iastI jb_X12_from rfl (pc' := 169) rfl (n := 225) (a := 47) rfl (fun _ => rfl) (by first | omega | exact (hM _ _).1 | exact (hM _ _).2) (by first | omega | exact (hM _ _).1 | exact (hM _ _).2) (by first | omega | exact (hM _ _).1 | exact (hM _ _).2) ?_
                      refine je_iinc jb_X12_from rfl (pc' := 172) rfl rfl (ls' := [_, _, _, _, _]) rfl ?_
                      refine je_ps jb_X12_from 1 (pc' := 135) (ls' := [_, _, _, _, _]) (st' := []) rfl ?_
                      refine kw _ _ ⟨rfl, jh_eq ?_⟩
                      unfold gFm
                      rw [jU_same, jU_jU]
                      exact congrArg (jU _ 47) (gLay_s (by omega) rfl rfl)
                  · obtain ⟨rfl, rfl⟩ := gw
                    have q54 : gFm m (aL A x.toNat).1 ((aL A x.toNat).2.toNat : Nat) 56 x = (aL A x.toNat).2 := by rw [gFm_ne _ _ _ (by decide) (by decide)]; exact e54
                    refine je_ps jb_X12_from 2 (pc' := 138) (ls' := [_, _, _, _, _]) (st' := [_, _]) rfl ?_
                    refine je_get jb_X12_from rfl (pc' := 141) rfl (jh_at (a := 45) rfl) (by rfl) (by rfl) ?_
                    refine je_ps jb_X12_from 1 (pc' := 142) (ls' := [_, _, _, _, _]) (st' := [_, _, _]) rfl ?_
                    refine je_iald jb_X12_from rfl (pc' := 143) rfl (n := 3) (f := _) (jh_at (a := 56) rfl) (by first | omega | exact (hM _ _).1 | exact (hM _ _).2) (by first | omega | exact (hM _ _).1 | exact (hM _ _).2) (by first | omega | exact (hM _ _).1 | exact (hM _ _).2) ?_
                    rw [q54]
                    refine je_icmpge jb_X12_from rfl (t := 175) rfl (pc' := 146) rfl (by first | omega | exact (hM _ _).1 | exact (hM _ _).2) (by first | omega | exact (hM _ _).1 | exact (hM _ _).2) (by first | omega | exact (hM _ _).1 | exact (hM _ _).2) (by first | omega | exact (hM _ _).1 | exact (hM _ _).2) (fun c143 => ?_) (fun c143 => ?_)
                    · rw [show (((aL A x.toNat).2.toNat : Nat) : Int) = (aL A x.toNat).2 by omega]
                      refine je_ps jb_X12_from 1 (pc' := 176) (ls' := [_, _, _, _, _]) (st' := [_]) rfl ?_
                      refine je_get jb_X12_from rfl (pc' := 179) rfl (jh_at (a := 45) rfl) (by rfl) (by rfl) ?_
                      refine je_ps jb_X12_from 2 (pc' := 182) (ls' := [_, _, _, _, _]) (st' := [_, _, _]) rfl ?_
                      refine je_iastI jb_X12_from rfl (pc' := 183) rfl (n := 9) (a := 48) rfl (fun _ => rfl) (by first | omega | exact (hM _ _).1 | exact (hM _ _).2) (by first | omega | exact (hM _ _).1 | exact (hM _ _).2) (by first | omega | exact (hM _ _).1 | exact (hM _ _).2) ?_
                      refine je_ps jb_X12_from 2 (pc' := 186) (ls' := [_, _, _, _, _]) (st' := [_, _]) rfl ?_
                      refine je_cvP' jb_X12_from rfl (pc' := 189) rfl (jh_at (a := 45) rfl) (by rfl) (by first | decide | exact Nat.ble_eq_true_of_le (by omega)) (k_gcomes (c := (aC A : Int)) (gR_fm (by omega) (by omega)) (by rw [jU_ne (by decide), gFm_ne _ _ _ (by decide) (by decide)]; exact J.c) (by omega) (by omega) (by omega)) (st' := [_]) rfl ?_
                      rw [show aFrom A x y = ((aC A : Int), sAdd A (fRAt (aL A x.toNat).1 (aL A x.toNat).2, y)) from by unfold aFrom; rw [if_pos ⟨hl, c12⟩, if_pos (by omega), if_neg (by omega), if_pos hb]]
                      exact je_ret jb_X12_from rfl (by rfl) ⟨_, rfl, rfl, (J.y O.c6 gY_fm).add (by omega) (fRAt (aL A x.toNat).1 (aL A x.toNat).2, y), ((((kC.rfl' m).y gY_fm)).w _ _ _).u (by decide) _⟩
                    · first | (exfalso; omega) | (cases c143; done) | (exfalso; simp_all; done)
                · have hb : fBT (aN A) (aK A) (aL A x.toNat).1 (aL A x.toNat).2 = false := by first | exact c116 | exact fLd_m (w := (aL A x.toNat).2.toNat) c116 (by omega) (by omega)
                  refine je_ps jb_X12_from 2 (pc' := 122) (ls' := [_, _, _, _, _]) (st' := [_, _]) rfl ?_
                  refine je_cvP' jb_X12_from rfl (pc' := 125) rfl (jh_at (a := 45) rfl) (by rfl) (by first | decide | exact Nat.ble_eq_true_of_le (by omega)) (c_X12_refused (by omega)) (st' := [_]) rfl ?_
                  rw [show aFrom A x y = aRef A (-3) from by unfold aFrom; rw [if_pos ⟨hl, c12⟩, if_pos (by omega), if_neg (by omega), if_neg (by rw [hb]; decide)]]
                  exact je_ret jb_X12_from rfl (by rfl) ⟨_, rfl, rfl, J.ref (by omega), (kC.rfl' m).u (by decide) _⟩
              · first | (exfalso; omega) | (cases c79; done) | (exfalso; simp_all; done)
        · refine je_ps jb_X12_from 1 (pc' := 48) (ls' := [_, _, _, _, _]) (st' := [_]) rfl ?_
          rw [show aFrom A x y = (-11, A) from by unfold aFrom; rw [if_pos ⟨hl, c12⟩, if_pos (by omega), if_pos (by omega)]]
          exact je_ret jb_X12_from rfl (by rfl) ⟨_, rfl, rfl, J, (kC.rfl' m)⟩
      · refine je_ps jb_X12_from 2 (pc' := 33) (ls' := [_, _, _, _, _]) (st' := [_, _]) rfl ?_
        refine je_cvP' jb_X12_from rfl (pc' := 36) rfl (jh_at (a := 45) rfl) (by rfl) (by first | decide | exact Nat.ble_eq_true_of_le (by omega)) (c_X12_refused (by omega)) (st' := [_]) rfl ?_
        rw [show aFrom A x y = aRef A (-6) from by unfold aFrom; rw [if_pos ⟨hl, c12⟩, if_neg (by omega)]]
        exact je_ret jb_X12_from rfl (by rfl) ⟨_, rfl, rfl, J.ref (by omega), (kC.rfl' m).u (by decide) _⟩
    · refine je_ps jb_X12_from 2 (pc' := 17) (ls' := [_, _, _, _, _]) (st' := [_, _]) rfl ?_
      refine je_cvP' jb_X12_from rfl (pc' := 20) rfl (jh_at (a := 45) rfl) (by rfl) (by first | decide | exact Nat.ble_eq_true_of_le (by omega)) (c_X12_refused (by omega)) (st' := [_]) rfl ?_
      first | (rw [show aFrom A x y = aRef A (-1) from by unfold aFrom; rw [if_neg (fun h => of_decide_eq_false c4 h.1)]]; exact je_ret jb_X12_from rfl (by rfl) ⟨_, rfl, rfl, J.ref (by omega), (kC.rfl' m).u (by decide) _⟩) | (rw [show aFrom A x y = aRef A (-1) from by unfold aFrom; rw [if_neg (fun h => by rw [h.2] at c12; cases c12)]]; exact je_ret jb_X12_from rfl (by rfl) ⟨_, rfl, rfl, J.ref (by omega), (kC.rfl' m).u (by decide) _⟩)
end C74
