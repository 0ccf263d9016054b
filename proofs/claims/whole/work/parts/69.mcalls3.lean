/-! CALLS of the other side: spheres, lots, counts, the street -/
section C69
variable {sc : Nat × (Nat → Int32)} {m : Nat → Int → Int} {r : Nat → Nat → Value} {T : jx_H} {σ : jx_H}
theorem gl_sphere_n {A : aT} (O : aOk A) (J : iG A m) {x : Int} (hn : x < 0) (hx : -2147483648 ≤ x ∧ x ≤ 2147483647) : jq sc 2 jm_X12_sphere [.ref 45, .int (jI x)] (jh m r T) (gQ (aSphere A x) m r T) := by
  have c6 := O.c6
  have fs := O.fs
  have jc := J.c
  have hn : x < 0 := hn
  refine je_in jb_X12_sphere rfl (ls := [_, _, _, _, _]) rfl ?_
  refine je_ps jb_X12_sphere 1 (pc' := 1) (ls' := [_, _, _, _, _]) (st' := [_]) rfl ?_
  refine je_ifge jb_X12_sphere rfl (t := 11) rfl (pc' := 4) rfl (by first | omega | exact (hM _ _).1 | exact (hM _ _).2) (by first | omega | exact (hM _ _).1 | exact (hM _ _).2) (fun c1 => ?_) (fun c1 => ?_)
  · first | (exfalso; omega) | (cases c1; done) | (exfalso; simp_all; done)
  · refine je_ps jb_X12_sphere 2 (pc' := 7) (ls' := [_, _, _, _, _]) (st' := [_, _]) rfl ?_
    refine je_cvP' jb_X12_sphere rfl (pc' := 10) rfl (jh_at (a := 45) rfl) (by rfl) (by first | decide | exact Nat.ble_eq_true_of_le (by omega)) (c_X12_refused (by omega)) (st' := [_]) rfl ?_
    rw [show aSphere A x = aRef A (-4) from by unfold aSphere; rw [if_pos (by omega)]]
    exact je_ret jb_X12_sphere rfl (by rfl) ⟨_, rfl, rfl, J.ref (by omega), (kC.rfl' m).u (by decide) _⟩
theorem gl_sphere_q {A : aT} (O : aOk A) (J : iG A m) {x : Int} (hn : 5 < x) (hx : -2147483648 ≤ x ∧ x ≤ 2147483647) : jq sc 2 jm_X12_sphere [.ref 45, .int (jI x)] (jh m r T) (gQ (aSphere A x) m r T) := by
  have c6 := O.c6
  have fs := O.fs
  have jc := J.c
  refine je_in jb_X12_sphere rfl (ls := [_, _, _, _, _]) rfl ?_
  refine je_ps jb_X12_sphere 1 (pc' := 1) (ls' := [_, _, _, _, _]) (st' := [_]) rfl ?_
  refine je_ifge jb_X12_sphere rfl (t := 11) rfl (pc' := 4) rfl (by first | omega | exact (hM _ _).1 | exact (hM _ _).2) (by first | omega | exact (hM _ _).1 | exact (hM _ _).2) (fun c1 => ?_) (fun c1 => ?_)
  · refine je_ps jb_X12_sphere 2 (pc' := 13) (ls' := [_, _, _, _, _]) (st' := [_, _]) rfl ?_
    refine je_icmple jb_X12_sphere rfl (t := 23) rfl (pc' := 16) rfl (by first | omega | exact (hM _ _).1 | exact (hM _ _).2) (by first | omega | exact (hM _ _).1 | exact (hM _ _).2) (by first | omega | exact (hM _ _).1 | exact (hM _ _).2) (by first | omega | exact (hM _ _).1 | exact (hM _ _).2) (fun c13 => ?_) (fun c13 => ?_)
    · first | (exfalso; omega) | (cases c13; done) | (exfalso; simp_all; done)
    · refine je_ps jb_X12_sphere 2 (pc' := 19) (ls' := [_, _, _, _, _]) (st' := [_, _]) rfl ?_
      refine je_cvP' jb_X12_sphere rfl (pc' := 22) rfl (jh_at (a := 45) rfl) (by rfl) (by first | decide | exact Nat.ble_eq_true_of_le (by omega)) (c_X12_refused (by omega)) (st' := [_]) rfl ?_
      rw [show aSphere A x = aRef A (-6) from by unfold aSphere; rw [if_neg (by omega), if_pos (by omega)]]
      exact je_ret jb_X12_sphere rfl (by rfl) ⟨_, rfl, rfl, J.ref (by omega), (kC.rfl' m).u (by decide) _⟩
  · first | (exfalso; omega) | (cases c1; done) | (exfalso; simp_all; done)
theorem gl_sphere {A : aT} (O : aOk A) (J : iG A m) {x : Int} (hx : -2147483648 ≤ x ∧ x ≤ 2147483647) : jq sc 6 jm_X12_sphere [.ref 45, .int (jI x)] (jh m r T) (gQ (aSphere A x) m r T) := by
  by_cases h1 : x < 0
  · obtain ⟨v, σ1, a, b⟩ := gl_sphere_n (sc := sc) (r := r) (T := T) O J h1 hx
    exact ⟨v, σ1, jx_call_up (by decide) a, b⟩
  · by_cases h2 : 5 < x
    · obtain ⟨v, σ1, a, b⟩ := gl_sphere_q (sc := sc) (r := r) (T := T) O J h2 hx
      exact ⟨v, σ1, jx_call_up (by decide) a, b⟩
    · obtain ⟨v, σ1, a, m', b1, b2, b3⟩ := k_gsphere (sc := sc) (r := r) (T := T) J.st (K := x.toNat) (by omega)
      rw [show ((x.toNat : Nat) : Int) = x by omega] at a
      refine ⟨v, σ1, a, m', ?_, b2, ?_, (kC.rfl' m).y b3⟩
      · rw [b1]
        unfold aSphere
        rw [if_neg h1, if_neg h2]
      · unfold aSphere
        rw [if_neg h1, if_neg h2]
        exact J.y O.c6 b3
theorem gl_lots {A : aT} (O : aOk A) (J : iG A m) {x y z w : Int} (hx : -2147483648 ≤ x ∧ x ≤ 2147483647) (hy : -2147483648 ≤ y ∧ y ≤ 2147483647) (hz : -2147483648 ≤ z ∧ z ≤ 2147483647) (hw : -2147483648 ≤ w ∧ w ≤ 2147483647) : jq sc 12 jm_X12_lots [.ref 45, .int (jI x), .int (jI y), .int (jI z), .int (jI w)] (jh m r T) (gQ (aLots A x y z w) m r T) := by
  have c6 := O.c6
  have fs := O.fs
  have jc := J.c
  refine je_in jb_X12_lots rfl (ls := [_, _, _, _, _, _, _, _, _, _]) rfl ?_
  refine je_ps jb_X12_lots 2 (pc' := 2) (ls' := [_, _, _, _, _, _, _, _, _, _]) (st' := [_, _]) rfl ?_
  refine je_icmplt jb_X12_lots rfl (t := 10) rfl (pc' := 5) rfl (by first | omega | exact (hM _ _).1 | exact (hM _ _).2) (by first | omega | exact (hM _ _).1 | exact (hM _ _).2) (by first | omega | exact (hM _ _).1 | exact (hM _ _).2) (by first | omega | exact (hM _ _).1 | exact (hM _ _).2) (fun c2 => ?_) (fun c2 => ?_)
  · refine je_ps jb_X12_lots 2 (pc' := 13) (ls' := [_, _, _, _, _, _, _, _, _, _]) (st' := [_, _]) rfl ?_
    refine je_cvP' jb_X12_lots rfl (pc' := 16) rfl (jh_at (a := 45) rfl) (by rfl) (by first | decide | exact Nat.ble_eq_true_of_le (by omega)) (c_X12_refused (by omega)) (st' := [_]) rfl ?_
    rw [show aLots A x y z w = aRef A (-4) from by unfold aLots; rw [if_pos (by omega)]]
    exact je_ret jb_X12_lots rfl (by rfl) ⟨_, rfl, rfl, J.ref (by omega), (kC.rfl' m).u (by decide) _⟩
  · refine je_ps jb_X12_lots 2 (pc' := 7) (ls' := [_, _, _, _, _, _, _, _, _, _]) (st' := [_, _]) rfl ?_
    refine je_icmpge jb_X12_lots rfl (t := 17) rfl (pc' := 10) rfl (by first | omega | exact (hM _ _).1 | exact (hM _ _).2) (by first | omega | exact (hM _ _).1 | exact (hM _ _).2) (by first | omega | exact (hM _ _).1 | exact (hM _ _).2) (by first | omega | exact (hM _ _).1 | exact (hM _ _).2) (fun c7 => ?_) (fun c7 => ?_)
    · refine je_ps jb_X12_lots 2 (pc' := 20) (ls' := [_, _, _, _, _, _, _, _, _, _]) (st' := [_, _]) rfl ?_
      refine je_icmpgt jb_X12_lots rfl (t := 29) rfl (pc' := 23) rfl (by first | omega | exact (hM _ _).1 | exact (hM _ _).2) (by first | omega | exact (hM _ _).1 | exact (hM _ _).2) (by first | omega | exact (hM _ _).1 | exact (hM _ _).2) (by first | omega | exact (hM _ _).1 | exact (hM _ _).2) (fun c20 => ?_) (fun c20 => ?_)
      · refine je_ps jb_X12_lots 2 (pc' := 32) (ls' := [_, _, _, _, _, _, _, _, _, _]) (st' := [_, _]) rfl ?_
        refine je_cvP' jb_X12_lots rfl (pc' := 35) rfl (jh_at (a := 45) rfl) (by rfl) (by first | decide | exact Nat.ble_eq_true_of_le (by omega)) (c_X12_refused (by omega)) (st' := [_]) rfl ?_
        rw [show aLots A x y z w = aRef A (-6) from by unfold aLots; rw [if_neg (by omega), if_pos (by omega)]]
        exact je_ret jb_X12_lots rfl (by rfl) ⟨_, rfl, rfl, J.ref (by omega), (kC.rfl' m).u (by decide) _⟩
      · refine je_ps jb_X12_lots 2 (pc' := 26) (ls' := [_, _, _, _, _, _, _, _, _, _]) (st' := [_, _]) rfl ?_
        refine je_icmple jb_X12_lots rfl (t := 36) rfl (pc' := 29) rfl (by first | omega | exact (hM _ _).1 | exact (hM _ _).2) (by first | omega | exact (hM _ _).1 | exact (hM _ _).2) (by first | omega | exact (hM _ _).1 | exact (hM _ _).2) (by first | omega | exact (hM _ _).1 | exact (hM _ _).2) (fun c26 => ?_) (fun c26 => ?_)
        · refine je_ps jb_X12_lots 3 (pc' := 40) (ls' := [_, _, _, _, _, _, _, _, _, _]) (st' := [_, _, _]) rfl ?_
          refine je_csP' jb_X12_lots rfl (pc' := 43) rfl (by rfl) (by first | decide | exact Nat.ble_eq_true_of_le (by omega)) (c_X12_isIn (by omega) (by omega) (by omega)) (st' := [_]) rfl ?_
          refine je_ifneb jb_X12_lots rfl (t := 53) rfl (pc' := 46) rfl (fun c43 => ?_) (fun c43 => ?_)
          · have hw2 := of_decide_eq_true c43
            refine je_ps jb_X12_lots 8 (pc' := 65) (ls' := [_, _, _, _, _, _, _, _, _, _]) (st' := []) rfl ?_
            refine je_loop (fun (v : Nat) ls σ' => ∃ m1 xx, ls = [.ref 45, .int (jI x), .int (jI y), .int (jI z), .int (jI w), .int (jI (lt (aS A) (aN A) (aK A) z y.toNat v).1), .int (jI (lt (aS A) (aN A) (aK A) z y.toNat v).2.1), .int (jI (lt (aS A) (aN A) (aK A) z y.toNat v).2.2), .int (jI v), xx] ∧ σ' = jh m1 r T ∧ gY m m1) (x.toNat) ⟨_, _, rfl, rfl, gY.rfl' m⟩ (fun v hv ls σ' gv kv => ?_) (fun ls σ' gv => ?_)
            · obtain ⟨m1, xx, rfl, rfl, fy⟩ := gv
              have g1 := fy.str J.st
              refine je_ps jb_X12_lots 2 (pc' := 68) (ls' := [_, _, _, _, _, _, _, _, _, _]) (st' := [_, _]) rfl ?_
              refine je_icmpge jb_X12_lots rfl (t := 156) rfl (pc' := 71) rfl (by first | omega | exact (hM _ _).1 | exact (hM _ _).2) (by first | omega | exact (hM _ _).1 | exact (hM _ _).2) (by first | omega | exact (hM _ _).1 | exact (hM _ _).2) (by first | omega | exact (hM _ _).1 | exact (hM _ _).2) (fun c68 => ?_) (fun c68 => ?_)
              · first | (exfalso; omega) | (cases c68; done) | (exfalso; simp_all; done)
              · refine je_ps jb_X12_lots 2 (pc' := 74) (ls' := [_, _, _, _, _, _, _, _, _, _]) (st' := [_, _]) rfl ?_
                refine je_cvP' jb_X12_lots rfl (pc' := 77) rfl (jh_at (a := 45) rfl) (by rfl) (by first | decide | exact Nat.ble_eq_true_of_le (by omega)) (k_gbares (by omega)) (st' := []) rfl ?_
                refine je_ps jb_X12_lots 2 (pc' := 80) (ls' := [_, _, _, _, _, _, _, _, _, _]) (st' := []) rfl ?_
                refine je_loop (fun (j : Nat) ls σ' => ls = [.ref 45, .int (jI x), .int (jI y), .int (jI z), .int (jI w), .int (jI (lw (aS A) (aN A) (aK A) (lt (aS A) (aN A) (aK A) z y.toNat v).1 j).1), .int (jI (lt (aS A) (aN A) (aK A) z y.toNat v).2.1), .int (jI (lt (aS A) (aN A) (aK A) z y.toNat v).2.2), .int (jI v), .int (jI j)] ∧ σ' = jh (gW m1 6 (lw (aS A) (aN A) (aK A) (lt (aS A) (aN A) (aK A) z y.toNat v).1 j).2.1 (lw (aS A) (aN A) (aK A) (lt (aS A) (aN A) (aK A) z y.toNat v).1 j).2.2) r T) (y.toNat) ⟨rfl, rfl⟩ (fun j hj ls σ' gj kj => ?_) (fun ls σ' gj => ?_)
                · obtain ⟨rfl, rfl⟩ := gj
                  have oj := lw_ok (z := (lt (aS A) (aN A) (aK A) z y.toNat v).1) fs j
                  have gj := gWk.w (m := m1) (w := 6) g1 (by omega) oj.1 oj.2.1
                  refine je_ps jb_X12_lots 2 (pc' := 83) (ls' := [_, _, _, _, _, _, _, _, _, _]) (st' := [_, _]) rfl ?_
                  refine je_icmpge jb_X12_lots rfl (t := 120) rfl (pc' := 86) rfl (by first | omega | exact (hM _ _).1 | exact (hM _ _).2) (by first | omega | exact (hM _ _).1 | exact (hM _ _).2) (by first | omega | exact (hM _ _).1 | exact (hM _ _).2) (by first | omega | exact (hM _ _).1 | exact (hM _ _).2) (fun c83 => ?_) (fun c83 => ?_)
                  · first | (exfalso; omega) | (cases c83; done) | (exfalso; simp_all; done)
                  · refine je_ps jb_X12_lots 2 (pc' := 90) (ls' := [_, _, _, _, _, _, _, _, _, _]) (st' := [_, _]) rfl ?_
                    refine je_imul jb_X12_lots rfl (pc' := 91) rfl ?_
                    refine je_ps jb_X12_lots 1 (pc' := 93) (ls' := [_, _, _, _, _, _, _, _, _, _]) (st' := [_, _]) rfl ?_
                    refine je_iadd jb_X12_lots rfl (pc' := 94) rfl ?_
                    refine je_ps jb_X12_lots 5 (pc' := 103) (ls' := [_, _, _, _, _, _, _, _, _, _]) (st' := [_, _, _, _]) rfl ?_
                    refine je_iandm jb_X12_lots rfl (pc' := 104) rfl ?_
                    refine je_ps jb_X12_lots 1 (pc' := 107) (ls' := [_, _, _, _, _, _, _, _, _, _]) (st' := [_, _, _, _]) rfl ?_
                    refine je_idiv jb_X12_lots rfl (pc' := 108) rfl (by first | omega | exact (hM _ _).1 | exact (hM _ _).2) (by first | omega | exact (hM _ _).1 | exact (hM _ _).2) (by first | omega | exact (hM _ _).1 | exact (hM _ _).2) (by first | omega | exact (hM _ _).1 | exact (hM _ _).2) ?_
                    refine je_ps jb_X12_lots 1 (pc' := 109) (ls' := [_, _, _, _, _, _, _, _, _, _]) (st' := [_, _, _, _]) rfl ?_
                    refine je_irem jb_X12_lots rfl (pc' := 110) rfl (by first | omega | exact (hM _ _).1 | exact (hM _ _).2) (by first | omega | exact (hM _ _).1 | exact (hM _ _).2) (by first | omega | exact (hM _ _).1 | exact (hM _ _).2) (by first | omega | exact (hM _ _).1 | exact (hM _ _).2) ?_
                    refine je_cvP' jb_X12_lots rfl (pc' := 113) rfl (jh_at (a := 45) rfl) (by rfl) (by first | decide | exact Nat.ble_eq_true_of_le (by omega)) (k_gdoes gj (by omega)) (st' := [_]) rfl ?_
                    refine je_ps jb_X12_lots 1 (pc' := 114) (ls' := [_, _, _, _, _, _, _, _, _, _]) (st' := []) rfl ?_
                    refine je_iinc jb_X12_lots rfl (pc' := 117) rfl rfl (ls' := [_, _, _, _, _, _, _, _, _, _]) rfl ?_
                    refine je_ps jb_X12_lots 1 (pc' := 80) (ls' := [_, _, _, _, _, _, _, _, _, _]) (st' := []) rfl ?_
                    refine kj _ _ ⟨rfl, jh_eq ?_⟩
                    rw [gW_W]
                    rfl
                · obtain ⟨rfl, rfl⟩ := gj
                  have oj := lw_ok (z := (lt (aS A) (aN A) (aK A) z y.toNat v).1) fs y.toNat
                  have gj := gWk.w (m := m1) (w := 6) g1 (by omega) oj.1 oj.2.1
                  refine je_ps jb_X12_lots 2 (pc' := 83) (ls' := [_, _, _, _, _, _, _, _, _, _]) (st' := [_, _]) rfl ?_
                  refine je_icmpge jb_X12_lots rfl (t := 120) rfl (pc' := 86) rfl (by first | omega | exact (hM _ _).1 | exact (hM _ _).2) (by first | omega | exact (hM _ _).1 | exact (hM _ _).2) (by first | omega | exact (hM _ _).1 | exact (hM _ _).2) (by first | omega | exact (hM _ _).1 | exact (hM _ _).2) (fun c83 => ?_) (fun c83 => ?_)
                  · refine je_ps jb_X12_lots 3 (pc' := 125) (ls' := [_, _, _, _, _, _, _, _, _, _]) (st' := [_, _, _]) rfl ?_
                    refine je_cv jb_X12_lots rfl (pc' := 128) rfl (jh_at (a := 45) rfl) (by rfl) (by first | decide | exact Nat.ble_eq_true_of_le (by omega)) (k_glength gj) ?_
                    rintro _ _ ⟨m2, rfl, rfl, h1⟩
                    show je _ _ _ _ _ [_, _] _ _
                    refine je_iadd jb_X12_lots rfl (pc' := 129) rfl ?_
                    refine je_ps jb_X12_lots 4 (pc' := 136) (ls' := [_, _, _, _, _, _, _, _, _, _]) (st' := [_, _, _]) rfl ?_
                    refine je_cv jb_X12_lots rfl (pc' := 139) rfl (jh_at (a := 45) rfl) (by rfl) (by first | decide | exact Nat.ble_eq_true_of_le (by omega)) (k_gisDead (h1.k gj)) ?_
                    rintro _ _ ⟨m3, rfl, rfl, h2⟩
                    show je _ _ _ _ _ [_, _] _ _
                    refine je_ifeqb jb_X12_lots rfl (t := 146) rfl (pc' := 142) rfl (fun c139 => ?_) (fun c139 => ?_)
                    · refine je_ps jb_X12_lots 1 (pc' := 147) (ls' := [_, _, _, _, _, _, _, _, _, _]) (st' := [_, _]) rfl ?_
                      refine je_iadd jb_X12_lots rfl (pc' := 148) rfl ?_
                      refine je_ps jb_X12_lots 1 (pc' := 150) (ls' := [_, _, _, _, _, _, _, _, _, _]) (st' := []) rfl ?_
                      refine je_iinc jb_X12_lots rfl (pc' := 153) rfl rfl (ls' := [_, _, _, _, _, _, _, _, _, _]) rfl ?_
                      refine je_ps jb_X12_lots 1 (pc' := 65) (ls' := [_, _, _, _, _, _, _, _, _, _]) (st' := []) rfl ?_
                      have elt : lt (aS A) (aN A) (aK A) z y.toNat (v + 1) = ((lw (aS A) (aN A) (aK A) (lt (aS A) (aN A) (aK A) z y.toNat v).1 y.toNat).1, (lt (aS A) (aN A) (aK A) z y.toNat v).2.1 + fLen (aS A) (aN A) (aK A) (lw (aS A) (aN A) (aK A) (lt (aS A) (aN A) (aK A) z y.toNat v).1 y.toNat).2.1 (lw (aS A) (aN A) (aK A) (lt (aS A) (aN A) (aK A) z y.toNat v).1 y.toNat).2.2, (lt (aS A) (aN A) (aK A) z y.toNat v).2.2 + jb (lDead (aS A) (aN A) (aK A) (lw (aS A) (aN A) (aK A) (lt (aS A) (aN A) (aK A) z y.toNat v).1 y.toNat).2)) := rfl
                      first | rw [elt, show lDead (aS A) (aN A) (aK A) (lw (aS A) (aN A) (aK A) (lt (aS A) (aN A) (aK A) z y.toNat v).1 y.toNat).2 = true from c139] at kv | rw [elt, show lDead (aS A) (aN A) (aK A) (lw (aS A) (aN A) (aK A) (lt (aS A) (aN A) (aK A) z y.toNat v).1 y.toNat).2 = false from c139] at kv
                      exact kv _ _ ⟨_, _, rfl, rfl, ((fy.w (by omega) _ _).tr h1.y).tr h2.y⟩
                    · refine je_ps jb_X12_lots 2 (pc' := 147) (ls' := [_, _, _, _, _, _, _, _, _, _]) (st' := [_, _]) rfl ?_
                      refine je_iadd jb_X12_lots rfl (pc' := 148) rfl ?_
                      refine je_ps jb_X12_lots 1 (pc' := 150) (ls' := [_, _, _, _, _, _, _, _, _, _]) (st' := []) rfl ?_
                      refine je_iinc jb_X12_lots rfl (pc' := 153) rfl rfl (ls' := [_, _, _, _, _, _, _, _, _, _]) rfl ?_
                      refine je_ps jb_X12_lots 1 (pc' := 65) (ls' := [_, _, _, _, _, _, _, _, _, _]) (st' := []) rfl ?_
                      have elt : lt (aS A) (aN A) (aK A) z y.toNat (v + 1) = ((lw (aS A) (aN A) (aK A) (lt (aS A) (aN A) (aK A) z y.toNat v).1 y.toNat).1, (lt (aS A) (aN A) (aK A) z y.toNat v).2.1 + fLen (aS A) (aN A) (aK A) (lw (aS A) (aN A) (aK A) (lt (aS A) (aN A) (aK A) z y.toNat v).1 y.toNat).2.1 (lw (aS A) (aN A) (aK A) (lt (aS A) (aN A) (aK A) z y.toNat v).1 y.toNat).2.2, (lt (aS A) (aN A) (aK A) z y.toNat v).2.2 + jb (lDead (aS A) (aN A) (aK A) (lw (aS A) (aN A) (aK A) (lt (aS A) (aN A) (aK A) z y.toNat v).1 y.toNat).2)) := rfl
                      first | rw [elt, show lDead (aS A) (aN A) (aK A) (lw (aS A) (aN A) (aK A) (lt (aS A) (aN A) (aK A) z y.toNat v).1 y.toNat).2 = true from c139] at kv | rw [elt, show lDead (aS A) (aN A) (aK A) (lw (aS A) (aN A) (aK A) (lt (aS A) (aN A) (aK A) z y.toNat v).1 y.toNat).2 = false from c139] at kv
                      exact kv _ _ ⟨_, _, rfl, rfl, ((fy.w (by omega) _ _).tr h1.y).tr h2.y⟩
                  · first | (exfalso; omega) | (cases c83; done) | (exfalso; simp_all; done)
            · obtain ⟨m1, xx, rfl, rfl, fy⟩ := gv
              refine je_ps jb_X12_lots 2 (pc' := 68) (ls' := [_, _, _, _, _, _, _, _, _, _]) (st' := [_, _]) rfl ?_
              refine je_icmpge jb_X12_lots rfl (t := 156) rfl (pc' := 71) rfl (by first | omega | exact (hM _ _).1 | exact (hM _ _).2) (by first | omega | exact (hM _ _).1 | exact (hM _ _).2) (by first | omega | exact (hM _ _).1 | exact (hM _ _).2) (by first | omega | exact (hM _ _).1 | exact (hM _ _).2) (fun c68 => ?_) (fun c68 => ?_)
              · refine je_ps jb_X12_lots 1 (pc' := 158) (ls' := [_, _, _, _, _, _, _, _, _, _]) (st' := [_]) rfl ?_
                refine je_ifne jb_X12_lots rfl (t := 166) rfl (pc' := 161) rfl (by first | omega | exact (hM _ _).1 | exact (hM _ _).2) (by first | omega | exact (hM _ _).1 | exact (hM _ _).2) (fun c158 => ?_) (fun c158 => ?_)
                · refine je_ps jb_X12_lots 1 (pc' := 168) (ls' := [_, _, _, _, _, _, _, _, _, _]) (st' := [_]) rfl ?_
                  rw [show aLots A x y z w = ((if w = 0 then (lt (aS A) (aN A) (aK A) z y.toNat x.toNat).2.1 else (lt (aS A) (aN A) (aK A) z y.toNat x.toNat).2.2), A) from by unfold aLots; rw [if_neg (by omega), if_neg (by omega), if_neg (by omega)]]
                  exact je_ret jb_X12_lots rfl (by rfl) ⟨_, by first | (rw [if_pos (by omega)]; done) | (rw [if_neg (by omega)]; done), rfl, J.y c6 fy, (kC.rfl' m).y fy⟩
                · refine je_ps jb_X12_lots 2 (pc' := 168) (ls' := [_, _, _, _, _, _, _, _, _, _]) (st' := [_]) rfl ?_
                  rw [show aLots A x y z w = ((if w = 0 then (lt (aS A) (aN A) (aK A) z y.toNat x.toNat).2.1 else (lt (aS A) (aN A) (aK A) z y.toNat x.toNat).2.2), A) from by unfold aLots; rw [if_neg (by omega), if_neg (by omega), if_neg (by omega)]]
                  exact je_ret jb_X12_lots rfl (by rfl) ⟨_, by first | (rw [if_pos (by omega)]; done) | (rw [if_neg (by omega)]; done), rfl, J.y c6 fy, (kC.rfl' m).y fy⟩
              · first | (exfalso; omega) | (cases c68; done) | (exfalso; simp_all; done)
          · refine je_ps jb_X12_lots 2 (pc' := 49) (ls' := [_, _, _, _, _, _, _, _, _, _]) (st' := [_, _]) rfl ?_
            refine je_cvP' jb_X12_lots rfl (pc' := 52) rfl (jh_at (a := 45) rfl) (by rfl) (by first | decide | exact Nat.ble_eq_true_of_le (by omega)) (c_X12_refused (by omega)) (st' := [_]) rfl ?_
            rw [show aLots A x y z w = aRef A (-2) from by unfold aLots; rw [if_neg (by omega), if_neg (by omega), if_pos (by have := of_decide_eq_false c43; omega)]]
            exact je_ret jb_X12_lots rfl (by rfl) ⟨_, rfl, rfl, J.ref (by omega), (kC.rfl' m).u (by decide) _⟩
        · refine je_ps jb_X12_lots 2 (pc' := 32) (ls' := [_, _, _, _, _, _, _, _, _, _]) (st' := [_, _]) rfl ?_
          refine je_cvP' jb_X12_lots rfl (pc' := 35) rfl (jh_at (a := 45) rfl) (by rfl) (by first | decide | exact Nat.ble_eq_true_of_le (by omega)) (c_X12_refused (by omega)) (st' := [_]) rfl ?_
          rw [show aLots A x y z w = aRef A (-6) from by unfold aLots; rw [if_neg (by omega), if_pos (by omega)]]
          exact je_ret jb_X12_lots rfl (by rfl) ⟨_, rfl, rfl, J.ref (by omega), (kC.rfl' m).u (by decide) _⟩
    · refine je_ps jb_X12_lots 2 (pc' := 13) (ls' := [_, _, _, _, _, _, _, _, _, _]) (st' := [_, _]) rfl ?_
      refine je_cvP' jb_X12_lots rfl (pc' := 16) rfl (jh_at (a := 45) rfl) (by rfl) (by first | decide | exact Nat.ble_eq_true_of_le (by omega)) (c_X12_refused (by omega)) (st' := [_]) rfl ?_
      rw [show aLots A x y z w = aRef A (-4) from by unfold aLots; rw [if_pos (by omega)]]
      exact je_ret jb_X12_lots rfl (by rfl) ⟨_, rfl, rfl, J.ref (by omega), (kC.rfl' m).u (by decide) _⟩
theorem gl_count {A : aT} (O : aOk A) (J : iG A m) {x : Int} (hx : -2147483648 ≤ x ∧ x ≤ 2147483647) : jq sc 4 jm_X12_count [.ref 45, .int (jI x)] (jh m r T) (gQ ((aCount A x, A)) m r T) := by
  have c6 := O.c6
  have fs := O.fs
  have jc := J.c
  obtain ⟨s1, s2, s3, s4⟩ := J.st.1
  have fs2 := fs
  unfold fS at fs2
  refine je_in jb_X12_count rfl (ls := [_, _]) rfl ?_
  refine je_ps jb_X12_count 3 (pc' := 5) (ls' := [_, _]) (st' := [_, _, _]) rfl ?_
  refine je_csP' jb_X12_count rfl (pc' := 8) rfl (by rfl) (by first | decide | exact Nat.ble_eq_true_of_le (by omega)) (c_X12_isIn (by omega) (by omega) (by omega)) (st' := [_]) rfl ?_
  refine je_ifeqb jb_X12_count rfl (t := 21) rfl (pc' := 11) rfl (fun c8 => ?_) (fun c8 => ?_)
  · have hb := of_decide_eq_false c8
    refine je_ps jb_X12_count 1 (pc' := 22) (ls' := [_, _]) (st' := [_]) rfl ?_
    refine je_swc fun y22 ey22 => ?_
    rcases (by omega : y22 = 0 ∨ y22 = 1 ∨ y22 = 2 ∨ y22 = 3 ∨ y22 = 4 ∨ y22 = 5 ∨ (y22 < 0 ∨ 5 < y22)) with c22 | c22 | c22 | c22 | c22 | c22 | c22
    · rw [c22]
      refine je_sw jb_X12_count rfl (t := 60) (st' := []) rfl ?_
      refine je_ps jb_X12_count 1 (pc' := 61) (ls' := [_, _]) (st' := [_]) rfl ?_
      refine je_get jb_X12_count rfl (pc' := 64) rfl (jh_at (a := 45) rfl) (by rfl) (by rfl) ?_
      refine je_ifeq jb_X12_count rfl (t := 71) rfl (pc' := 67) rfl (by first | omega | exact (hM _ _).1 | exact (hM _ _).2) (by first | omega | exact (hM _ _).1 | exact (hM _ _).2) (fun c64 => ?_) (fun c64 => ?_)
      · refine je_ps jb_X12_count 1 (pc' := 72) (ls' := [_, _]) (st' := [_]) rfl ?_
        first | (have es : aS A = 1 := (by omega); exact je_ret jb_X12_count rfl (by rfl) ⟨_, by show _ = some (Value.int (jI (aCount A x))); unfold aCount; rw [if_pos (by omega), es], rfl, J, kC.rfl' m⟩) | (have es : aS A = 0 := (by omega); exact je_ret jb_X12_count rfl (by rfl) ⟨_, by show _ = some (Value.int (jI (aCount A x))); unfold aCount; rw [if_pos (by omega), es], rfl, J, kC.rfl' m⟩)
      · refine je_ps jb_X12_count 2 (pc' := 72) (ls' := [_, _]) (st' := [_]) rfl ?_
        first | (have es : aS A = 1 := (by omega); exact je_ret jb_X12_count rfl (by rfl) ⟨_, by show _ = some (Value.int (jI (aCount A x))); unfold aCount; rw [if_pos (by omega), es], rfl, J, kC.rfl' m⟩) | (have es : aS A = 0 := (by omega); exact je_ret jb_X12_count rfl (by rfl) ⟨_, by show _ = some (Value.int (jI (aCount A x))); unfold aCount; rw [if_pos (by omega), es], rfl, J, kC.rfl' m⟩)
    · rw [c22]
      refine je_sw jb_X12_count rfl (t := 73) (st' := []) rfl ?_
      refine je_ps jb_X12_count 1 (pc' := 74) (ls' := [_, _]) (st' := [_]) rfl ?_
      refine je_get jb_X12_count rfl (pc' := 77) rfl (jh_at (a := 45) rfl) (by rfl) (by rfl) ?_
      exact je_ret jb_X12_count rfl (by rfl) ⟨_, by show _ = some (Value.int (jI (aCount A x))); unfold aCount; rw [if_neg (by omega), if_pos (by omega), s2]; all_goals rfl, rfl, J, kC.rfl' m⟩
    · rw [c22]
      refine je_sw jb_X12_count rfl (t := 78) (st' := []) rfl ?_
      refine je_ps jb_X12_count 1 (pc' := 79) (ls' := [_, _]) (st' := [_]) rfl ?_
      refine je_get jb_X12_count rfl (pc' := 82) rfl (jh_at (a := 45) rfl) (by rfl) (by rfl) ?_
      exact je_ret jb_X12_count rfl (by rfl) ⟨_, by show _ = some (Value.int (jI (aCount A x))); unfold aCount; rw [if_neg (by omega), if_neg (by omega), if_pos (by omega), s4]; all_goals rfl, rfl, J, kC.rfl' m⟩
    · rw [c22]
      refine je_sw jb_X12_count rfl (t := 83) (st' := []) rfl ?_
      refine je_ps jb_X12_count 1 (pc' := 84) (ls' := [_, _]) (st' := [_]) rfl ?_
      refine je_get jb_X12_count rfl (pc' := 87) rfl (jh_at (a := 45) rfl) (by rfl) (by rfl) ?_
      exact je_ret jb_X12_count rfl (by rfl) ⟨_, by show _ = some (Value.int (jI (aCount A x))); unfold aCount; rw [if_neg (by omega), if_neg (by omega), if_neg (by omega), if_pos (by omega), jc]; all_goals rfl, rfl, J, kC.rfl' m⟩
    · rw [c22]
      refine je_sw jb_X12_count rfl (t := 88) (st' := []) rfl ?_
      refine je_ps jb_X12_count 1 (pc' := 89) (ls' := [_, _]) (st' := [_]) rfl ?_
      refine je_get jb_X12_count rfl (pc' := 92) rfl (jh_at (a := 45) rfl) (by rfl) (by rfl) ?_
      exact je_ret jb_X12_count rfl (by rfl) ⟨_, by show _ = some (Value.int (jI (aCount A x))); unfold aCount; rw [if_neg (by omega), if_neg (by omega), if_neg (by omega), if_neg (by omega), if_pos (by omega), J.hc]; all_goals rfl, rfl, J, kC.rfl' m⟩
    · rw [c22]
      refine je_sw jb_X12_count rfl (t := 93) (st' := []) rfl ?_
      refine je_ps jb_X12_count 1 (pc' := 94) (ls' := [_, _]) (st' := [_]) rfl ?_
      refine je_get jb_X12_count rfl (pc' := 97) rfl (jh_at (a := 45) rfl) (by rfl) (by rfl) ?_
      exact je_ret jb_X12_count rfl (by rfl) ⟨_, by show _ = some (Value.int (jI (aCount A x))); unfold aCount; rw [if_neg (by omega), if_neg (by omega), if_neg (by omega), if_neg (by omega), if_neg (by omega), if_pos (by omega), J.2.2.2.2.2.1.1]; all_goals rfl, rfl, J, kC.rfl' m⟩
    · refine je_swO jb_X12_count rfl (t := 98) rfl (by omega) (by omega) c22 ?_
      refine je_ps jb_X12_count 1 (pc' := 100) (ls' := [_, _]) (st' := [_]) rfl ?_
      exact je_ret jb_X12_count rfl (by rfl) ⟨_, by show _ = some (Value.int (jI (aCount A x))); unfold aCount; rw [if_neg (by omega), if_neg (by omega), if_neg (by omega), if_neg (by omega), if_neg (by omega), if_neg (by omega), if_neg (by omega)], rfl, J, kC.rfl' m⟩
  · have hb := of_decide_eq_true c8
    refine je_ps jb_X12_count 1 (pc' := 12) (ls' := [_, _]) (st' := [_]) rfl ?_
    refine je_get jb_X12_count rfl (pc' := 15) rfl (jh_at (a := 45) rfl) (by rfl) (by rfl) ?_
    refine je_ps jb_X12_count 2 (pc' := 18) (ls' := [_, _]) (st' := [_, _, _]) rfl ?_
    refine je_isub jb_X12_count rfl (pc' := 19) rfl ?_
    refine je_iald jb_X12_count rfl (pc' := 20) rfl (n := 8) (f := _) (jh_at (a := 46) rfl) (by first | omega | exact (hM _ _).1 | exact (hM _ _).2) (by first | omega | exact (hM _ _).1 | exact (hM _ _).2) (by first | omega | exact (hM _ _).1 | exact (hM _ _).2) ?_
    rw [show x - 10 = (x - 11) + 1 by omega, J.2.2.2.2.2.2.2.1 (x - 11) (by omega) (by omega)]
    exact je_ret jb_X12_count rfl (by rfl) ⟨_, by show _ = some (Value.int (jI (aCount A x))); unfold aCount; rw [if_neg (by omega), if_neg (by omega), if_neg (by omega), if_neg (by omega), if_neg (by omega), if_neg (by omega), if_pos (by omega)], rfl, J, kC.rfl' m⟩
theorem iG.street {A : aT} (J : iG A m) {s n k : Int} (h : fS s n k) {f : Int → Int} (hf : f = ju (ju (ju (ju (ju (ju (m 45) 1 s) 2 n) 3 (fLo s)) 4 k) 5 0) 8 0) : iG (sSt A s n k) (jU m 45 f) := by
  subst hf
  refine J.f43 (A' := sSt A s n k) rfl ?_ h ?_ (fun i hi => absurd (show i < 0 from hi) (by omega)) (ju_same _ _ _) (fun i hi => absurd (show i < 0 from hi) (by omega)) (fun j q1 q2 q3 q4 q5 q6 => ?_)
  · rw [ju_ne (by decide), ju_ne (by decide), ju_ne (by decide), ju_ne (by decide), ju_ne (by decide), ju_same, ju_ne (by decide), ju_ne (by decide), ju_ne (by decide), ju_ne (by decide), ju_same, ju_ne (by decide), ju_ne (by decide), ju_ne (by decide), ju_same, ju_ne (by decide), ju_ne (by decide), ju_same]
    exact ⟨rfl, rfl, rfl, rfl⟩
  · rw [ju_ne (by decide), ju_same]
    rfl
  · rw [ju_ne q6, ju_ne q5, ju_ne q4, ju_ne q3, ju_ne q2, ju_ne q1]
theorem gl_street {A : aT} (O : aOk A) (J : iG A m) {x y z : Int} (hx : -2147483648 ≤ x ∧ x ≤ 2147483647) (hy : -2147483648 ≤ y ∧ y ≤ 2147483647) (hz : -2147483648 ≤ z ∧ z ≤ 2147483647) : jq sc 4 jm_X12_street [.ref 45, .int (jI x), .int (jI y), .int (jI z)] (jh m r T) (gQ (aStreet A x y z) m r T) := by
  have c6 := O.c6
  have fs := O.fs
  have jc := J.c
  refine je_in jb_X12_street rfl (ls := [_, _, _, _]) rfl ?_
  refine je_ps jb_X12_street 3 (pc' := 3) (ls' := [_, _, _, _]) (st' := [_, _, _]) rfl ?_
  refine je_csP' jb_X12_street rfl (pc' := 6) rfl (by rfl) (by first | decide | exact Nat.ble_eq_true_of_le (by omega)) (c_X12_isIn (by omega) (by omega) (by omega)) (st' := [_]) rfl ?_
  refine je_ifneb jb_X12_street rfl (t := 16) rfl (pc' := 9) rfl (fun c6 => ?_) (fun c6 => ?_)
  · have hb := of_decide_eq_true c6
    refine je_ps jb_X12_street 2 (pc' := 18) (ls' := [_, _, _, _]) (st' := [_, _]) rfl ?_
    refine je_icmpne jb_X12_street rfl (t := 26) rfl (pc' := 21) rfl (by first | omega | exact (hM _ _).1 | exact (hM _ _).2) (by first | omega | exact (hM _ _).1 | exact (hM _ _).2) (by first | omega | exact (hM _ _).1 | exact (hM _ _).2) (by first | omega | exact (hM _ _).1 | exact (hM _ _).2) (fun c18 => ?_) (fun c18 => ?_)
    · refine je_ps jb_X12_street 2 (pc' := 28) (ls' := [_, _, _, _]) (st' := [_, _]) rfl ?_
      refine je_icmpge jb_X12_street rfl (t := 38) rfl (pc' := 31) rfl (by first | omega | exact (hM _ _).1 | exact (hM _ _).2) (by first | omega | exact (hM _ _).1 | exact (hM _ _).2) (by first | omega | exact (hM _ _).1 | exact (hM _ _).2) (by first | omega | exact (hM _ _).1 | exact (hM _ _).2) (fun c28 => ?_) (fun c28 => ?_)
      · refine je_ps jb_X12_street 2 (pc' := 40) (ls' := [_, _, _, _]) (st' := [_, _]) rfl ?_
        refine je_icmpne jb_X12_street rfl (t := 49) rfl (pc' := 43) rfl (by first | omega | exact (hM _ _).1 | exact (hM _ _).2) (by first | omega | exact (hM _ _).1 | exact (hM _ _).2) (by first | omega | exact (hM _ _).1 | exact (hM _ _).2) (by first | omega | exact (hM _ _).1 | exact (hM _ _).2) (fun c40 => ?_) (fun c40 => ?_)
        · refine je_ps jb_X12_street 2 (pc' := 51) (ls' := [_, _, _, _]) (st' := [_, _]) rfl ?_
          refine je_icmple jb_X12_street rfl (t := 61) rfl (pc' := 54) rfl (by first | omega | exact (hM _ _).1 | exact (hM _ _).2) (by first | omega | exact (hM _ _).1 | exact (hM _ _).2) (by first | omega | exact (hM _ _).1 | exact (hM _ _).2) (by first | omega | exact (hM _ _).1 | exact (hM _ _).2) (fun c51 => ?_) (fun c51 => ?_)
          · refine je_ps jb_X12_street 3 (pc' := 64) (ls' := [_, _, _, _]) (st' := [_, _, _]) rfl ?_
            refine je_icmpne jb_X12_street rfl (t := 71) rfl (pc' := 67) rfl (by first | omega | exact (hM _ _).1 | exact (hM _ _).2) (by first | omega | exact (hM _ _).1 | exact (hM _ _).2) (by first | omega | exact (hM _ _).1 | exact (hM _ _).2) (by first | omega | exact (hM _ _).1 | exact (hM _ _).2) (fun c64 => ?_) (fun c64 => ?_)
            · refine je_ps jb_X12_street 1 (pc' := 72) (ls' := [_, _, _, _]) (st' := [_, _]) rfl ?_
              refine je_putI jb_X12_street rfl (pc' := 75) rfl (j := 1) (a := 45) rfl (by rfl) (by rfl) (by rfl) (by rfl) ?_
              refine je_ps jb_X12_street 2 (pc' := 77) (ls' := [_, _, _, _]) (st' := [_, _]) rfl ?_
              refine je_get jb_X12_street rfl (pc' := 80) rfl (jh_at (a := 45) rfl) (by rfl) (by rfl) ?_
              rw [jU_same, ju_same]
              refine je_ifeq jb_X12_street rfl (t := 87) rfl (pc' := 83) rfl (by first | omega | exact (hM _ _).1 | exact (hM _ _).2) (by first | omega | exact (hM _ _).1 | exact (hM _ _).2) (fun c80 => ?_) (fun c80 => ?_)
              · refine je_ps jb_X12_street 1 (pc' := 89) (ls' := [_, _, _, _]) (st' := [_, _]) rfl ?_
                refine je_putI jb_X12_street rfl (pc' := 92) rfl (j := 2) (a := 45) rfl (by rfl) (by rfl) (by rfl) (by rfl) ?_
                rw [jU_same, jU_jU]
                refine je_ps jb_X12_street 2 (pc' := 94) (ls' := [_, _, _, _]) (st' := [_, _]) rfl ?_
                refine je_get jb_X12_street rfl (pc' := 97) rfl (jh_at (a := 45) rfl) (by rfl) (by rfl) ?_
                rw [jU_same, ju_ne (by decide), ju_same]
                refine je_ifeq jb_X12_street rfl (t := 104) rfl (pc' := 100) rfl (by first | omega | exact (hM _ _).1 | exact (hM _ _).2) (by first | omega | exact (hM _ _).1 | exact (hM _ _).2) (fun c97 => ?_) (fun c97 => ?_)
                · refine je_ps jb_X12_street 1 (pc' := 106) (ls' := [_, _, _, _]) (st' := [_, _]) rfl ?_
                  refine je_putI jb_X12_street rfl (pc' := 109) rfl (j := 3) (a := 45) rfl (by rfl) (by rfl) (by rfl) (by rfl) ?_
                  rw [jU_same, jU_jU]
                  refine je_ps jb_X12_street 2 (pc' := 111) (ls' := [_, _, _, _]) (st' := [_, _]) rfl ?_
                  refine je_putI jb_X12_street rfl (pc' := 114) rfl (j := 4) (a := 45) rfl (by rfl) (by rfl) (by rfl) (by rfl) ?_
                  rw [jU_same, jU_jU]
                  refine je_ps jb_X12_street 2 (pc' := 116) (ls' := [_, _, _, _]) (st' := [_, _]) rfl ?_
                  refine je_putI jb_X12_street rfl (pc' := 119) rfl (j := 5) (a := 45) rfl (by rfl) (by rfl) (by rfl) (by rfl) ?_
                  rw [jU_same, jU_jU]
                  refine je_ps jb_X12_street 2 (pc' := 121) (ls' := [_, _, _, _]) (st' := [_, _]) rfl ?_
                  refine je_putI jb_X12_street rfl (pc' := 124) rfl (j := 8) (a := 45) rfl (by rfl) (by rfl) (by rfl) (by rfl) ?_
                  rw [jU_same, jU_jU]
                  refine je_ps jb_X12_street 1 (pc' := 125) (ls' := [_, _, _, _]) (st' := [_]) rfl ?_
                  refine je_get jb_X12_street rfl (pc' := 128) rfl (jh_at (a := 45) rfl) (by rfl) (by rfl) ?_
                  rw [jU_same, ju_ne (by decide), ju_ne (by decide), ju_ne (by decide), ju_ne (by decide), ju_same]
                  first | (exfalso; omega) | (have ex : x = 1 := (by omega); have e3 : (if x = 1 then y else (25 : Int)) = y := (if_pos ex); rw [show aStreet A x y z = (y, sSt A x y z) from by unfold aStreet; rw [if_neg (by omega), if_neg (by omega), if_neg (by omega), e3]]; exact je_ret jb_X12_street rfl (by rfl) ⟨_, rfl, rfl, J.street (by unfold fS; omega) (by rw [ex]; rfl), (kC.rfl' m).u (by decide) _⟩) | (have ex : x = 0 := (by omega); have e3 : (if x = 1 then y else (25 : Int)) = 25 := (if_neg (by omega)); rw [show aStreet A x y z = (25, sSt A x 25 z) from by unfold aStreet; rw [if_neg (by omega), if_neg (by omega), if_neg (by omega), e3]]; exact je_ret jb_X12_street rfl (by rfl) ⟨_, rfl, rfl, J.street (by unfold fS; omega) (by rw [ex]; rfl), (kC.rfl' m).u (by decide) _⟩)
                · refine je_ps jb_X12_street 2 (pc' := 106) (ls' := [_, _, _, _]) (st' := [_, _]) rfl ?_
                  refine je_putI jb_X12_street rfl (pc' := 109) rfl (j := 3) (a := 45) rfl (by rfl) (by rfl) (by rfl) (by rfl) ?_
                  rw [jU_same, jU_jU]
                  refine je_ps jb_X12_street 2 (pc' := 111) (ls' := [_, _, _, _]) (st' := [_, _]) rfl ?_
                  refine je_putI jb_X12_street rfl (pc' := 114) rfl (j := 4) (a := 45) rfl (by rfl) (by rfl) (by rfl) (by rfl) ?_
                  rw [jU_same, jU_jU]
                  refine je_ps jb_X12_street 2 (pc' := 116) (ls' := [_, _, _, _]) (st' := [_, _]) rfl ?_
                  refine je_putI jb_X12_street rfl (pc' := 119) rfl (j := 5) (a := 45) rfl (by rfl) (by rfl) (by rfl) (by rfl) ?_
                  rw [jU_same, jU_jU]
                  refine je_ps jb_X12_street 2 (pc' := 121) (ls' := [_, _, _, _]) (st' := [_, _]) rfl ?_
                  refine je_putI jb_X12_street rfl (pc' := 124) rfl (j := 8) (a := 45) rfl (by rfl) (by rfl) (by rfl) (by rfl) ?_
                  rw [jU_same, jU_jU]
                  refine je_ps jb_X12_street 1 (pc' := 125) (ls' := [_, _, _, _]) (st' := [_]) rfl ?_
                  refine je_get jb_X12_street rfl (pc' := 128) rfl (jh_at (a := 45) rfl) (by rfl) (by rfl) ?_
                  rw [jU_same, ju_ne (by decide), ju_ne (by decide), ju_ne (by decide), ju_ne (by decide), ju_same]
                  first | (exfalso; omega) | (have ex : x = 1 := (by omega); have e3 : (if x = 1 then y else (25 : Int)) = y := (if_pos ex); rw [show aStreet A x y z = (y, sSt A x y z) from by unfold aStreet; rw [if_neg (by omega), if_neg (by omega), if_neg (by omega), e3]]; exact je_ret jb_X12_street rfl (by rfl) ⟨_, rfl, rfl, J.street (by unfold fS; omega) (by rw [ex]; rfl), (kC.rfl' m).u (by decide) _⟩) | (have ex : x = 0 := (by omega); have e3 : (if x = 1 then y else (25 : Int)) = 25 := (if_neg (by omega)); rw [show aStreet A x y z = (25, sSt A x 25 z) from by unfold aStreet; rw [if_neg (by omega), if_neg (by omega), if_neg (by omega), e3]]; exact je_ret jb_X12_street rfl (by rfl) ⟨_, rfl, rfl, J.street (by unfold fS; omega) (by rw [ex]; rfl), (kC.rfl' m).u (by decide) _⟩)
              · refine je_ps jb_X12_street 2 (pc' := 89) (ls' := [_, _, _, _]) (st' := [_, _]) rfl ?_
                refine je_putI jb_X12_street rfl (pc' := 92) rfl (j := 2) (a := 45) rfl (by rfl) (by rfl) (by rfl) (by rfl) ?_
                rw [jU_same, jU_jU]
                refine je_ps jb_X12_street 2 (pc' := 94) (ls' := [_, _, _, _]) (st' := [_, _]) rfl ?_
                refine je_get jb_X12_street rfl (pc' := 97) rfl (jh_at (a := 45) rfl) (by rfl) (by rfl) ?_
                rw [jU_same, ju_ne (by decide), ju_same]
                refine je_ifeq jb_X12_street rfl (t := 104) rfl (pc' := 100) rfl (by first | omega | exact (hM _ _).1 | exact (hM _ _).2) (by first | omega | exact (hM _ _).1 | exact (hM _ _).2) (fun c97 => ?_) (fun c97 => ?_)
                · refine je_ps jb_X12_street 1 (pc' := 106) (ls' := [_, _, _, _]) (st' := [_, _]) rfl ?_
                  refine je_putI jb_X12_street rfl (pc' := 109) rfl (j := 3) (a := 45) rfl (by rfl) (by rfl) (by rfl) (by rfl) ?_
                  rw [jU_same, jU_jU]
                  refine je_ps jb_X12_street 2 (pc' := 111) (ls' := [_, _, _, _]) (st' := [_, _]) rfl ?_
                  refine je_putI jb_X12_street rfl (pc' := 114) rfl (j := 4) (a := 45) rfl (by rfl) (by rfl) (by rfl) (by rfl) ?_
                  rw [jU_same, jU_jU]
                  refine je_ps jb_X12_street 2 (pc' := 116) (ls' := [_, _, _, _]) (st' := [_, _]) rfl ?_
                  refine je_putI jb_X12_street rfl (pc' := 119) rfl (j := 5) (a := 45) rfl (by rfl) (by rfl) (by rfl) (by rfl) ?_
                  rw [jU_same, jU_jU]
                  refine je_ps jb_X12_street 2 (pc' := 121) (ls' := [_, _, _, _]) (st' := [_, _]) rfl ?_
                  refine je_putI jb_X12_street rfl (pc' := 124) rfl (j := 8) (a := 45) rfl (by rfl) (by rfl) (by rfl) (by rfl) ?_
                  rw [jU_same, jU_jU]
                  refine je_ps jb_X12_street 1 (pc' := 125) (ls' := [_, _, _, _]) (st' := [_]) rfl ?_
                  refine je_get jb_X12_street rfl (pc' := 128) rfl (jh_at (a := 45) rfl) (by rfl) (by rfl) ?_
                  rw [jU_same, ju_ne (by decide), ju_ne (by decide), ju_ne (by decide), ju_ne (by decide), ju_same]
                  first | (exfalso; omega) | (have ex : x = 1 := (by omega); have e3 : (if x = 1 then y else (25 : Int)) = y := (if_pos ex); rw [show aStreet A x y z = (y, sSt A x y z) from by unfold aStreet; rw [if_neg (by omega), if_neg (by omega), if_neg (by omega), e3]]; exact je_ret jb_X12_street rfl (by rfl) ⟨_, rfl, rfl, J.street (by unfold fS; omega) (by rw [ex]; rfl), (kC.rfl' m).u (by decide) _⟩) | (have ex : x = 0 := (by omega); have e3 : (if x = 1 then y else (25 : Int)) = 25 := (if_neg (by omega)); rw [show aStreet A x y z = (25, sSt A x 25 z) from by unfold aStreet; rw [if_neg (by omega), if_neg (by omega), if_neg (by omega), e3]]; exact je_ret jb_X12_street rfl (by rfl) ⟨_, rfl, rfl, J.street (by unfold fS; omega) (by rw [ex]; rfl), (kC.rfl' m).u (by decide) _⟩)
                · refine je_ps jb_X12_street 2 (pc' := 106) (ls' := [_, _, _, _]) (st' := [_, _]) rfl ?_
                  refine je_putI jb_X12_street rfl (pc' := 109) rfl (j := 3) (a := 45) rfl (by rfl) (by rfl) (by rfl) (by rfl) ?_
                  rw [jU_same, jU_jU]
                  refine je_ps jb_X12_street 2 (pc' := 111) (ls' := [_, _, _, _]) (st' := [_, _]) rfl ?_
                  refine je_putI jb_X12_street rfl (pc' := 114) rfl (j := 4) (a := 45) rfl (by rfl) (by rfl) (by rfl) (by rfl) ?_
                  rw [jU_same, jU_jU]
                  refine je_ps jb_X12_street 2 (pc' := 116) (ls' := [_, _, _, _]) (st' := [_, _]) rfl ?_
                  refine je_putI jb_X12_street rfl (pc' := 119) rfl (j := 5) (a := 45) rfl (by rfl) (by rfl) (by rfl) (by rfl) ?_
                  rw [jU_same, jU_jU]
                  refine je_ps jb_X12_street 2 (pc' := 121) (ls' := [_, _, _, _]) (st' := [_, _]) rfl ?_
                  refine je_putI jb_X12_street rfl (pc' := 124) rfl (j := 8) (a := 45) rfl (by rfl) (by rfl) (by rfl) (by rfl) ?_
                  rw [jU_same, jU_jU]
                  refine je_ps jb_X12_street 1 (pc' := 125) (ls' := [_, _, _, _]) (st' := [_]) rfl ?_
                  refine je_get jb_X12_street rfl (pc' := 128) rfl (jh_at (a := 45) rfl) (by rfl) (by rfl) ?_
                  rw [jU_same, ju_ne (by decide), ju_ne (by decide), ju_ne (by decide), ju_ne (by decide), ju_same]
                  first | (exfalso; omega) | (have ex : x = 1 := (by omega); have e3 : (if x = 1 then y else (25 : Int)) = y := (if_pos ex); rw [show aStreet A x y z = (y, sSt A x y z) from by unfold aStreet; rw [if_neg (by omega), if_neg (by omega), if_neg (by omega), e3]]; exact je_ret jb_X12_street rfl (by rfl) ⟨_, rfl, rfl, J.street (by unfold fS; omega) (by rw [ex]; rfl), (kC.rfl' m).u (by decide) _⟩) | (have ex : x = 0 := (by omega); have e3 : (if x = 1 then y else (25 : Int)) = 25 := (if_neg (by omega)); rw [show aStreet A x y z = (25, sSt A x 25 z) from by unfold aStreet; rw [if_neg (by omega), if_neg (by omega), if_neg (by omega), e3]]; exact je_ret jb_X12_street rfl (by rfl) ⟨_, rfl, rfl, J.street (by unfold fS; omega) (by rw [ex]; rfl), (kC.rfl' m).u (by decide) _⟩)
            · refine je_ps jb_X12_street 2 (pc' := 72) (ls' := [_, _, _, _]) (st' := [_, _]) rfl ?_
              refine je_putI jb_X12_street rfl (pc' := 75) rfl (j := 1) (a := 45) rfl (by rfl) (by rfl) (by rfl) (by rfl) ?_
              refine je_ps jb_X12_street 2 (pc' := 77) (ls' := [_, _, _, _]) (st' := [_, _]) rfl ?_
              refine je_get jb_X12_street rfl (pc' := 80) rfl (jh_at (a := 45) rfl) (by rfl) (by rfl) ?_
              rw [jU_same, ju_same]
              refine je_ifeq jb_X12_street rfl (t := 87) rfl (pc' := 83) rfl (by first | omega | exact (hM _ _).1 | exact (hM _ _).2) (by first | omega | exact (hM _ _).1 | exact (hM _ _).2) (fun c80 => ?_) (fun c80 => ?_)
              · refine je_ps jb_X12_street 1 (pc' := 89) (ls' := [_, _, _, _]) (st' := [_, _]) rfl ?_
                refine je_putI jb_X12_street rfl (pc' := 92) rfl (j := 2) (a := 45) rfl (by rfl) (by rfl) (by rfl) (by rfl) ?_
                rw [jU_same, jU_jU]
                refine je_ps jb_X12_street 2 (pc' := 94) (ls' := [_, _, _, _]) (st' := [_, _]) rfl ?_
                refine je_get jb_X12_street rfl (pc' := 97) rfl (jh_at (a := 45) rfl) (by rfl) (by rfl) ?_
                rw [jU_same, ju_ne (by decide), ju_same]
                refine je_ifeq jb_X12_street rfl (t := 104) rfl (pc' := 100) rfl (by first | omega | exact (hM _ _).1 | exact (hM _ _).2) (by first | omega | exact (hM _ _).1 | exact (hM _ _).2) (fun c97 => ?_) (fun c97 => ?_)
                · refine je_ps jb_X12_street 1 (pc' := 106) (ls' := [_, _, _, _]) (st' := [_, _]) rfl ?_
                  refine je_putI jb_X12_street rfl (pc' := 109) rfl (j := 3) (a := 45) rfl (by rfl) (by rfl) (by rfl) (by rfl) ?_
                  rw [jU_same, jU_jU]
                  refine je_ps jb_X12_street 2 (pc' := 111) (ls' := [_, _, _, _]) (st' := [_, _]) rfl ?_
                  refine je_putI jb_X12_street rfl (pc' := 114) rfl (j := 4) (a := 45) rfl (by rfl) (by rfl) (by rfl) (by rfl) ?_
                  rw [jU_same, jU_jU]
                  refine je_ps jb_X12_street 2 (pc' := 116) (ls' := [_, _, _, _]) (st' := [_, _]) rfl ?_
                  refine je_putI jb_X12_street rfl (pc' := 119) rfl (j := 5) (a := 45) rfl (by rfl) (by rfl) (by rfl) (by rfl) ?_
                  rw [jU_same, jU_jU]
                  refine je_ps jb_X12_street 2 (pc' := 121) (ls' := [_, _, _, _]) (st' := [_, _]) rfl ?_
                  refine je_putI jb_X12_street rfl (pc' := 124) rfl (j := 8) (a := 45) rfl (by rfl) (by rfl) (by rfl) (by rfl) ?_
                  rw [jU_same, jU_jU]
                  refine je_ps jb_X12_street 1 (pc' := 125) (ls' := [_, _, _, _]) (st' := [_]) rfl ?_
                  refine je_get jb_X12_street rfl (pc' := 128) rfl (jh_at (a := 45) rfl) (by rfl) (by rfl) ?_
                  rw [jU_same, ju_ne (by decide), ju_ne (by decide), ju_ne (by decide), ju_ne (by decide), ju_same]
                  first | (exfalso; omega) | (have ex : x = 1 := (by omega); have e3 : (if x = 1 then y else (25 : Int)) = y := (if_pos ex); rw [show aStreet A x y z = (y, sSt A x y z) from by unfold aStreet; rw [if_neg (by omega), if_neg (by omega), if_neg (by omega), e3]]; exact je_ret jb_X12_street rfl (by rfl) ⟨_, rfl, rfl, J.street (by unfold fS; omega) (by rw [ex]; rfl), (kC.rfl' m).u (by decide) _⟩) | (have ex : x = 0 := (by omega); have e3 : (if x = 1 then y else (25 : Int)) = 25 := (if_neg (by omega)); rw [show aStreet A x y z = (25, sSt A x 25 z) from by unfold aStreet; rw [if_neg (by omega), if_neg (by omega), if_neg (by omega), e3]]; exact je_ret jb_X12_street rfl (by rfl) ⟨_, rfl, rfl, J.street (by unfold fS; omega) (by rw [ex]; rfl), (kC.rfl' m).u (by decide) _⟩)
                · refine je_ps jb_X12_street 2 (pc' := 106) (ls' := [_, _, _, _]) (st' := [_, _]) rfl ?_
                  refine je_putI jb_X12_street rfl (pc' := 109) rfl (j := 3) (a := 45) rfl (by rfl) (by rfl) (by rfl) (by rfl) ?_
                  rw [jU_same, jU_jU]
                  refine je_ps jb_X12_street 2 (pc' := 111) (ls' := [_, _, _, _]) (st' := [_, _]) rfl ?_
                  refine je_putI jb_X12_street rfl (pc' := 114) rfl (j := 4) (a := 45) rfl (by rfl) (by rfl) (by rfl) (by rfl) ?_
                  rw [jU_same, jU_jU]
                  refine je_ps jb_X12_street 2 (pc' := 116) (ls' := [_, _, _, _]) (st' := [_, _]) rfl ?_
                  refine je_putI jb_X12_street rfl (pc' := 119) rfl (j := 5) (a := 45) rfl (by rfl) (by rfl) (by rfl) (by rfl) ?_
                  rw [jU_same, jU_jU]
                  refine je_ps jb_X12_street 2 (pc' := 121) (ls' := [_, _, _, _]) (st' := [_, _]) rfl ?_
                  refine je_putI jb_X12_street rfl (pc' := 124) rfl (j := 8) (a := 45) rfl (by rfl) (by rfl) (by rfl) (by rfl) ?_
                  rw [jU_same, jU_jU]
                  refine je_ps jb_X12_street 1 (pc' := 125) (ls' := [_, _, _, _]) (st' := [_]) rfl ?_
                  refine je_get jb_X12_street rfl (pc' := 128) rfl (jh_at (a := 45) rfl) (by rfl) (by rfl) ?_
                  rw [jU_same, ju_ne (by decide), ju_ne (by decide), ju_ne (by decide), ju_ne (by decide), ju_same]
                  first | (exfalso; omega) | (have ex : x = 1 := (by omega); have e3 : (if x = 1 then y else (25 : Int)) = y := (if_pos ex); rw [show aStreet A x y z = (y, sSt A x y z) from by unfold aStreet; rw [if_neg (by omega), if_neg (by omega), if_neg (by omega), e3]]; exact je_ret jb_X12_street rfl (by rfl) ⟨_, rfl, rfl, J.street (by unfold fS; omega) (by rw [ex]; rfl), (kC.rfl' m).u (by decide) _⟩) | (have ex : x = 0 := (by omega); have e3 : (if x = 1 then y else (25 : Int)) = 25 := (if_neg (by omega)); rw [show aStreet A x y z = (25, sSt A x 25 z) from by unfold aStreet; rw [if_neg (by omega), if_neg (by omega), if_neg (by omega), e3]]; exact je_ret jb_X12_street rfl (by rfl) ⟨_, rfl, rfl, J.street (by unfold fS; omega) (by rw [ex]; rfl), (kC.rfl' m).u (by decide) _⟩)
              · refine je_ps jb_X12_street 2 (pc' := 89) (ls' := [_, _, _, _]) (st' := [_, _]) rfl ?_
                refine je_putI jb_X12_street rfl (pc' := 92) rfl (j := 2) (a := 45) rfl (by rfl) (by rfl) (by rfl) (by rfl) ?_
                rw [jU_same, jU_jU]
                refine je_ps jb_X12_street 2 (pc' := 94) (ls' := [_, _, _, _]) (st' := [_, _]) rfl ?_
                refine je_get jb_X12_street rfl (pc' := 97) rfl (jh_at (a := 45) rfl) (by rfl) (by rfl) ?_
                rw [jU_same, ju_ne (by decide), ju_same]
                refine je_ifeq jb_X12_street rfl (t := 104) rfl (pc' := 100) rfl (by first | omega | exact (hM _ _).1 | exact (hM _ _).2) (by first | omega | exact (hM _ _).1 | exact (hM _ _).2) (fun c97 => ?_) (fun c97 => ?_)
                · refine je_ps jb_X12_street 1 (pc' := 106) (ls' := [_, _, _, _]) (st' := [_, _]) rfl ?_
                  refine je_putI jb_X12_street rfl (pc' := 109) rfl (j := 3) (a := 45) rfl (by rfl) (by rfl) (by rfl) (by rfl) ?_
                  rw [jU_same, jU_jU]
                  refine je_ps jb_X12_street 2 (pc' := 111) (ls' := [_, _, _, _]) (st' := [_, _]) rfl ?_
                  refine je_putI jb_X12_street rfl (pc' := 114) rfl (j := 4) (a := 45) rfl (by rfl) (by rfl) (by rfl) (by rfl) ?_
                  rw [jU_same, jU_jU]
                  refine je_ps jb_X12_street 2 (pc' := 116) (ls' := [_, _, _, _]) (st' := [_, _]) rfl ?_
                  refine je_putI jb_X12_street rfl (pc' := 119) rfl (j := 5) (a := 45) rfl (by rfl) (by rfl) (by rfl) (by rfl) ?_
                  rw [jU_same, jU_jU]
                  refine je_ps jb_X12_street 2 (pc' := 121) (ls' := [_, _, _, _]) (st' := [_, _]) rfl ?_
                  refine je_putI jb_X12_street rfl (pc' := 124) rfl (j := 8) (a := 45) rfl (by rfl) (by rfl) (by rfl) (by rfl) ?_
                  rw [jU_same, jU_jU]
                  refine je_ps jb_X12_street 1 (pc' := 125) (ls' := [_, _, _, _]) (st' := [_]) rfl ?_
                  refine je_get jb_X12_street rfl (pc' := 128) rfl (jh_at (a := 45) rfl) (by rfl) (by rfl) ?_
                  rw [jU_same, ju_ne (by decide), ju_ne (by decide), ju_ne (by decide), ju_ne (by decide), ju_same]
                  first | (exfalso; omega) | (have ex : x = 1 := (by omega); have e3 : (if x = 1 then y else (25 : Int)) = y := (if_pos ex); rw [show aStreet A x y z = (y, sSt A x y z) from by unfold aStreet; rw [if_neg (by omega), if_neg (by omega), if_neg (by omega), e3]]; exact je_ret jb_X12_street rfl (by rfl) ⟨_, rfl, rfl, J.street (by unfold fS; omega) (by rw [ex]; rfl), (kC.rfl' m).u (by decide) _⟩) | (have ex : x = 0 := (by omega); have e3 : (if x = 1 then y else (25 : Int)) = 25 := (if_neg (by omega)); rw [show aStreet A x y z = (25, sSt A x 25 z) from by unfold aStreet; rw [if_neg (by omega), if_neg (by omega), if_neg (by omega), e3]]; exact je_ret jb_X12_street rfl (by rfl) ⟨_, rfl, rfl, J.street (by unfold fS; omega) (by rw [ex]; rfl), (kC.rfl' m).u (by decide) _⟩)
                · refine je_ps jb_X12_street 2 (pc' := 106) (ls' := [_, _, _, _]) (st' := [_, _]) rfl ?_
                  refine je_putI jb_X12_street rfl (pc' := 109) rfl (j := 3) (a := 45) rfl (by rfl) (by rfl) (by rfl) (by rfl) ?_
                  rw [jU_same, jU_jU]
                  refine je_ps jb_X12_street 2 (pc' := 111) (ls' := [_, _, _, _]) (st' := [_, _]) rfl ?_
                  refine je_putI jb_X12_street rfl (pc' := 114) rfl (j := 4) (a := 45) rfl (by rfl) (by rfl) (by rfl) (by rfl) ?_
                  rw [jU_same, jU_jU]
                  refine je_ps jb_X12_street 2 (pc' := 116) (ls' := [_, _, _, _]) (st' := [_, _]) rfl ?_
                  refine je_putI jb_X12_street rfl (pc' := 119) rfl (j := 5) (a := 45) rfl (by rfl) (by rfl) (by rfl) (by rfl) ?_
                  rw [jU_same, jU_jU]
                  refine je_ps jb_X12_street 2 (pc' := 121) (ls' := [_, _, _, _]) (st' := [_, _]) rfl ?_
                  refine je_putI jb_X12_street rfl (pc' := 124) rfl (j := 8) (a := 45) rfl (by rfl) (by rfl) (by rfl) (by rfl) ?_
                  rw [jU_same, jU_jU]
                  refine je_ps jb_X12_street 1 (pc' := 125) (ls' := [_, _, _, _]) (st' := [_]) rfl ?_
                  refine je_get jb_X12_street rfl (pc' := 128) rfl (jh_at (a := 45) rfl) (by rfl) (by rfl) ?_
                  rw [jU_same, ju_ne (by decide), ju_ne (by decide), ju_ne (by decide), ju_ne (by decide), ju_same]
                  first | (exfalso; omega) | (have ex : x = 1 := (by omega); have e3 : (if x = 1 then y else (25 : Int)) = y := (if_pos ex); rw [show aStreet A x y z = (y, sSt A x y z) from by unfold aStreet; rw [if_neg (by omega), if_neg (by omega), if_neg (by omega), e3]]; exact je_ret jb_X12_street rfl (by rfl) ⟨_, rfl, rfl, J.street (by unfold fS; omega) (by rw [ex]; rfl), (kC.rfl' m).u (by decide) _⟩) | (have ex : x = 0 := (by omega); have e3 : (if x = 1 then y else (25 : Int)) = 25 := (if_neg (by omega)); rw [show aStreet A x y z = (25, sSt A x 25 z) from by unfold aStreet; rw [if_neg (by omega), if_neg (by omega), if_neg (by omega), e3]]; exact je_ret jb_X12_street rfl (by rfl) ⟨_, rfl, rfl, J.street (by unfold fS; omega) (by rw [ex]; rfl), (kC.rfl' m).u (by decide) _⟩)
          · refine je_ps jb_X12_street 2 (pc' := 57) (ls' := [_, _, _, _]) (st' := [_, _]) rfl ?_
            refine je_cvP' jb_X12_street rfl (pc' := 60) rfl (jh_at (a := 45) rfl) (by rfl) (by first | decide | exact Nat.ble_eq_true_of_le (by omega)) (c_X12_refused (by omega)) (st' := [_]) rfl ?_
            rw [show aStreet A x y z = aRef A (-6) from by unfold aStreet; rw [if_neg (by omega), if_neg (by omega), if_pos (by omega)]]
            exact je_ret jb_X12_street rfl (by rfl) ⟨_, rfl, rfl, J.ref (by omega), (kC.rfl' m).u (by decide) _⟩
        · refine je_ps jb_X12_street 2 (pc' := 46) (ls' := [_, _, _, _]) (st' := [_, _]) rfl ?_
          refine je_icmpgt jb_X12_street rfl (t := 54) rfl (pc' := 49) rfl (by first | omega | exact (hM _ _).1 | exact (hM _ _).2) (by first | omega | exact (hM _ _).1 | exact (hM _ _).2) (by first | omega | exact (hM _ _).1 | exact (hM _ _).2) (by first | omega | exact (hM _ _).1 | exact (hM _ _).2) (fun c46 => ?_) (fun c46 => ?_)
          · refine je_ps jb_X12_street 2 (pc' := 57) (ls' := [_, _, _, _]) (st' := [_, _]) rfl ?_
            refine je_cvP' jb_X12_street rfl (pc' := 60) rfl (jh_at (a := 45) rfl) (by rfl) (by first | decide | exact Nat.ble_eq_true_of_le (by omega)) (c_X12_refused (by omega)) (st' := [_]) rfl ?_
            rw [show aStreet A x y z = aRef A (-6) from by unfold aStreet; rw [if_neg (by omega), if_neg (by omega), if_pos (by omega)]]
            exact je_ret jb_X12_street rfl (by rfl) ⟨_, rfl, rfl, J.ref (by omega), (kC.rfl' m).u (by decide) _⟩
          · refine je_ps jb_X12_street 2 (pc' := 51) (ls' := [_, _, _, _]) (st' := [_, _]) rfl ?_
            refine je_icmple jb_X12_street rfl (t := 61) rfl (pc' := 54) rfl (by first | omega | exact (hM _ _).1 | exact (hM _ _).2) (by first | omega | exact (hM _ _).1 | exact (hM _ _).2) (by first | omega | exact (hM _ _).1 | exact (hM _ _).2) (by first | omega | exact (hM _ _).1 | exact (hM _ _).2) (fun c51 => ?_) (fun c51 => ?_)
            · refine je_ps jb_X12_street 3 (pc' := 64) (ls' := [_, _, _, _]) (st' := [_, _, _]) rfl ?_
              refine je_icmpne jb_X12_street rfl (t := 71) rfl (pc' := 67) rfl (by first | omega | exact (hM _ _).1 | exact (hM _ _).2) (by first | omega | exact (hM _ _).1 | exact (hM _ _).2) (by first | omega | exact (hM _ _).1 | exact (hM _ _).2) (by first | omega | exact (hM _ _).1 | exact (hM _ _).2) (fun c64 => ?_) (fun c64 => ?_)
              · refine je_ps jb_X12_street 1 (pc' := 72) (ls' := [_, _, _, _]) (st' := [_, _]) rfl ?_
                refine je_putI jb_X12_street rfl (pc' := 75) rfl (j := 1) (a := 45) rfl (by rfl) (by rfl) (by rfl) (by rfl) ?_
                refine je_ps jb_X12_street 2 (pc' := 77) (ls' := [_, _, _, _]) (st' := [_, _]) rfl ?_
                refine je_get jb_X12_street rfl (pc' := 80) rfl (jh_at (a := 45) rfl) (by rfl) (by rfl) ?_
                rw [jU_same, ju_same]
                refine je_ifeq jb_X12_street rfl (t := 87) rfl (pc' := 83) rfl (by first | omega | exact (hM _ _).1 | exact (hM _ _).2) (by first | omega | exact (hM _ _).1 | exact (hM _ _).2) (fun c80 => ?_) (fun c80 => ?_)
                · refine je_ps jb_X12_street 1 (pc' := 89) (ls' := [_, _, _, _]) (st' := [_, _]) rfl ?_
                  refine je_putI jb_X12_street rfl (pc' := 92) rfl (j := 2) (a := 45) rfl (by rfl) (by rfl) (by rfl) (by rfl) ?_
                  rw [jU_same, jU_jU]
                  refine je_ps jb_X12_street 2 (pc' := 94) (ls' := [_, _, _, _]) (st' := [_, _]) rfl ?_
                  refine je_get jb_X12_street rfl (pc' := 97) rfl (jh_at (a := 45) rfl) (by rfl) (by rfl) ?_
                  rw [jU_same, ju_ne (by decide), ju_same]
                  refine je_ifeq jb_X12_street rfl (t := 104) rfl (pc' := 100) rfl (by first | omega | exact (hM _ _).1 | exact (hM _ _).2) (by first | omega | exact (hM _ _).1 | exact (hM _ _).2) (fun c97 => ?_) (fun c97 => ?_)
                  · refine je_ps jb_X12_street 1 (pc' := 106) (ls' := [_, _, _, _]) (st' := [_, _]) rfl ?_
                    refine je_putI jb_X12_street rfl (pc' := 109) rfl (j := 3) (a := 45) rfl (by rfl) (by rfl) (by rfl) (by rfl) ?_
                    rw [jU_same, jU_jU]
                    refine je_ps jb_X12_street 2 (pc' := 111) (ls' := [_, _, _, _]) (st' := [_, _]) rfl ?_
                    refine je_putI jb_X12_street rfl (pc' := 114) rfl (j := 4) (a := 45) rfl (by rfl) (by rfl) (by rfl) (by rfl) ?_
                    rw [jU_same, jU_jU]
                    refine je_ps jb_X12_street 2 (pc' := 116) (ls' := [_, _, _, _]) (st' := [_, _]) rfl ?_
                    refine je_putI jb_X12_street rfl (pc' := 119) rfl (j := 5) (a := 45) rfl (by rfl) (by rfl) (by rfl) (by rfl) ?_
                    rw [jU_same, jU_jU]
                    refine je_ps jb_X12_street 2 (pc' := 121) (ls' := [_, _, _, _]) (st' := [_, _]) rfl ?_
                    refine je_putI jb_X12_street rfl (pc' := 124) rfl (j := 8) (a := 45) rfl (by rfl) (by rfl) (by rfl) (by rfl) ?_
                    rw [jU_same, jU_jU]
                    refine je_ps jb_X12_street 1 (pc' := 125) (ls' := [_, _, _, _]) (st' := [_]) rfl ?_
                    refine je_get jb_X12_street rfl (pc' := 128) rfl (jh_at (a := 45) rfl) (by rfl) (by rfl) ?_
                    rw [jU_same, ju_ne (by decide), ju_ne (by decide), ju_ne (by decide), ju_ne (by decide), ju_same]
                    first | (exfalso; omega) | (have ex : x = 1 := (by omega); have e3 : (if x = 1 then y else (25 : Int)) = y := (if_pos ex); rw [show aStreet A x y z = (y, sSt A x y z) from by unfold aStreet; rw [if_neg (by omega), if_neg (by omega), if_neg (by omega), e3]]; exact je_ret jb_X12_street rfl (by rfl) ⟨_, rfl, rfl, J.street (by unfold fS; omega) (by rw [ex]; rfl), (kC.rfl' m).u (by decide) _⟩) | (have ex : x = 0 := (by omega); have e3 : (if x = 1 then y else (25 : Int)) = 25 := (if_neg (by omega)); rw [show aStreet A x y z = (25, sSt A x 25 z) from by unfold aStreet; rw [if_neg (by omega), if_neg (by omega), if_neg (by omega), e3]]; exact je_ret jb_X12_street rfl (by rfl) ⟨_, rfl, rfl, J.street (by unfold fS; omega) (by rw [ex]; rfl), (kC.rfl' m).u (by decide) _⟩)
                  · refine je_ps jb_X12_street 2 (pc' := 106) (ls' := [_, _, _, _]) (st' := [_, _]) rfl ?_
                    refine je_putI jb_X12_street rfl (pc' := 109) rfl (j := 3) (a := 45) rfl (by rfl) (by rfl) (by rfl) (by rfl) ?_
                    rw [jU_same, jU_jU]
                    refine je_ps jb_X12_street 2 (pc' := 111) (ls' := [_, _, _, _]) (st' := [_, _]) rfl ?_
                    refine je_putI jb_X12_street rfl (pc' := 114) rfl (j := 4) (a := 45) rfl (by rfl) (by rfl) (by rfl) (by rfl) ?_
                    rw [jU_same, jU_jU]
                    refine je_ps jb_X12_street 2 (pc' := 116) (ls' := [_, _, _, _]) (st' := [_, _]) rfl ?_
                    refine je_putI jb_X12_street rfl (pc' := 119) rfl (j := 5) (a := 45) rfl (by rfl) (by rfl) (by rfl) (by rfl) ?_
                    rw [jU_same, jU_jU]
                    refine je_ps jb_X12_street 2 (pc' := 121) (ls' := [_, _, _, _]) (st' := [_, _]) rfl ?_
                    refine je_putI jb_X12_street rfl (pc' := 124) rfl (j := 8) (a := 45) rfl (by rfl) (by rfl) (by rfl) (by rfl) ?_
                    rw [jU_same, jU_jU]
                    refine je_ps jb_X12_street 1 (pc' := 125) (ls' := [_, _, _, _]) (st' := [_]) rfl ?_
                    refine je_get jb_X12_street rfl (pc' := 128) rfl (jh_at (a := 45) rfl) (by rfl) (by rfl) ?_
                    rw [jU_same, ju_ne (by decide), ju_ne (by decide), ju_ne (by decide), ju_ne (by decide), ju_same]
                    first | (exfalso; omega) | (have ex : x = 1 := (by omega); have e3 : (if x = 1 then y else (25 : Int)) = y := (if_pos ex); rw [show aStreet A x y z = (y, sSt A x y z) from by unfold aStreet; rw [if_neg (by omega), if_neg (by omega), if_neg (by omega), e3]]; exact je_ret jb_X12_street rfl (by rfl) ⟨_, rfl, rfl, J.street (by unfold fS; omega) (by rw [ex]; rfl), (kC.rfl' m).u (by decide) _⟩) | (have ex : x = 0 := (by omega); have e3 : (if x = 1 then y else (25 : Int)) = 25 := (if_neg (by omega)); rw [show aStreet A x y z = (25, sSt A x 25 z) from by unfold aStreet; rw [if_neg (by omega), if_neg (by omega), if_neg (by omega), e3]]; exact je_ret jb_X12_street rfl (by rfl) ⟨_, rfl, rfl, J.street (by unfold fS; omega) (by rw [ex]; rfl), (kC.rfl' m).u (by decide) _⟩)
                · refine je_ps jb_X12_street 2 (pc' := 89) (ls' := [_, _, _, _]) (st' := [_, _]) rfl ?_
                  refine je_putI jb_X12_street rfl (pc' := 92) rfl (j := 2) (a := 45) rfl (by rfl) (by rfl) (by rfl) (by rfl) ?_
                  rw [jU_same, jU_jU]
                  refine je_ps jb_X12_street 2 (pc' := 94) (ls' := [_, _, _, _]) (st' := [_, _]) rfl ?_
                  refine je_get jb_X12_street rfl (pc' := 97) rfl (jh_at (a := 45) rfl) (by rfl) (by rfl) ?_
                  rw [jU_same, ju_ne (by decide), ju_same]
                  refine je_ifeq jb_X12_street rfl (t := 104) rfl (pc' := 100) rfl (by first | omega | exact (hM _ _).1 | exact (hM _ _).2) (by first | omega | exact (hM _ _).1 | exact (hM _ _).2) (fun c97 => ?_) (fun c97 => ?_)
                  · refine je_ps jb_X12_street 1 (pc' := 106) (ls' := [_, _, _, _]) (st' := [_, _]) rfl ?_
                    refine je_putI jb_X12_street rfl (pc' := 109) rfl (j := 3) (a := 45) rfl (by rfl) (by rfl) (by rfl) (by rfl) ?_
                    rw [jU_same, jU_jU]
                    refine je_ps jb_X12_street 2 (pc' := 111) (ls' := [_, _, _, _]) (st' := [_, _]) rfl ?_
                    refine je_putI jb_X12_street rfl (pc' := 114) rfl (j := 4) (a := 45) rfl (by rfl) (by rfl) (by rfl) (by rfl) ?_
                    rw [jU_same, jU_jU]
                    refine je_ps jb_X12_street 2 (pc' := 116) (ls' := [_, _, _, _]) (st' := [_, _]) rfl ?_
                    refine je_putI jb_X12_street rfl (pc' := 119) rfl (j := 5) (a := 45) rfl (by rfl) (by rfl) (by rfl) (by rfl) ?_
                    rw [jU_same, jU_jU]
                    refine je_ps jb_X12_street 2 (pc' := 121) (ls' := [_, _, _, _]) (st' := [_, _]) rfl ?_
                    refine je_putI jb_X12_street rfl (pc' := 124) rfl (j := 8) (a := 45) rfl (by rfl) (by rfl) (by rfl) (by rfl) ?_
                    rw [jU_same, jU_jU]
                    refine je_ps jb_X12_street 1 (pc' := 125) (ls' := [_, _, _, _]) (st' := [_]) rfl ?_
                    refine je_get jb_X12_street rfl (pc' := 128) rfl (jh_at (a := 45) rfl) (by rfl) (by rfl) ?_
                    rw [jU_same, ju_ne (by decide), ju_ne (by decide), ju_ne (by decide), ju_ne (by decide), ju_same]
                    first | (exfalso; omega) | (have ex : x = 1 := (by omega); have e3 : (if x = 1 then y else (25 : Int)) = y := (if_pos ex); rw [show aStreet A x y z = (y, sSt A x y z) from by unfold aStreet; rw [if_neg (by omega), if_neg (by omega), if_neg (by omega), e3]]; exact je_ret jb_X12_street rfl (by rfl) ⟨_, rfl, rfl, J.street (by unfold fS; omega) (by rw [ex]; rfl), (kC.rfl' m).u (by decide) _⟩) | (have ex : x = 0 := (by omega); have e3 : (if x = 1 then y else (25 : Int)) = 25 := (if_neg (by omega)); rw [show aStreet A x y z = (25, sSt A x 25 z) from by unfold aStreet; rw [if_neg (by omega), if_neg (by omega), if_neg (by omega), e3]]; exact je_ret jb_X12_street rfl (by rfl) ⟨_, rfl, rfl, J.street (by unfold fS; omega) (by rw [ex]; rfl), (kC.rfl' m).u (by decide) _⟩)
                  · refine je_ps jb_X12_street 2 (pc' := 106) (ls' := [_, _, _, _]) (st' := [_, _]) rfl ?_
                    refine je_putI jb_X12_street rfl (pc' := 109) rfl (j := 3) (a := 45) rfl (by rfl) (by rfl) (by rfl) (by rfl) ?_
                    rw [jU_same, jU_jU]
                    refine je_ps jb_X12_street 2 (pc' := 111) (ls' := [_, _, _, _]) (st' := [_, _]) rfl ?_
                    refine je_putI jb_X12_street rfl (pc' := 114) rfl (j := 4) (a := 45) rfl (by rfl) (by rfl) (by rfl) (by rfl) ?_
                    rw [jU_same, jU_jU]
                    refine je_ps jb_X12_street 2 (pc' := 116) (ls' := [_, _, _, _]) (st' := [_, _]) rfl ?_
                    refine je_putI jb_X12_street rfl (pc' := 119) rfl (j := 5) (a := 45) rfl (by rfl) (by rfl) (by rfl) (by rfl) ?_
                    rw [jU_same, jU_jU]
                    refine je_ps jb_X12_street 2 (pc' := 121) (ls' := [_, _, _, _]) (st' := [_, _]) rfl ?_
                    refine je_putI jb_X12_street rfl (pc' := 124) rfl (j := 8) (a := 45) rfl (by rfl) (by rfl) (by rfl) (by rfl) ?_
                    rw [jU_same, jU_jU]
                    refine je_ps jb_X12_street 1 (pc' := 125) (ls' := [_, _, _, _]) (st' := [_]) rfl ?_
                    refine je_get jb_X12_street rfl (pc' := 128) rfl (jh_at (a := 45) rfl) (by rfl) (by rfl) ?_
                    rw [jU_same, ju_ne (by decide), ju_ne (by decide), ju_ne (by decide), ju_ne (by decide), ju_same]
                    first | (exfalso; omega) | (have ex : x = 1 := (by omega); have e3 : (if x = 1 then y else (25 : Int)) = y := (if_pos ex); rw [show aStreet A x y z = (y, sSt A x y z) from by unfold aStreet; rw [if_neg (by omega), if_neg (by omega), if_neg (by omega), e3]]; exact je_ret jb_X12_street rfl (by rfl) ⟨_, rfl, rfl, J.street (by unfold fS; omega) (by rw [ex]; rfl), (kC.rfl' m).u (by decide) _⟩) | (have ex : x = 0 := (by omega); have e3 : (if x = 1 then y else (25 : Int)) = 25 := (if_neg (by omega)); rw [show aStreet A x y z = (25, sSt A x 25 z) from by unfold aStreet; rw [if_neg (by omega), if_neg (by omega), if_neg (by omega), e3]]; exact je_ret jb_X12_street rfl (by rfl) ⟨_, rfl, rfl, J.street (by unfold fS; omega) (by rw [ex]; rfl), (kC.rfl' m).u (by decide) _⟩)
              · refine je_ps jb_X12_street 2 (pc' := 72) (ls' := [_, _, _, _]) (st' := [_, _]) rfl ?_
                refine je_putI jb_X12_street rfl (pc' := 75) rfl (j := 1) (a := 45) rfl (by rfl) (by rfl) (by rfl) (by rfl) ?_
                refine je_ps jb_X12_street 2 (pc' := 77) (ls' := [_, _, _, _]) (st' := [_, _]) rfl ?_
                refine je_get jb_X12_street rfl (pc' := 80) rfl (jh_at (a := 45) rfl) (by rfl) (by rfl) ?_
                rw [jU_same, ju_same]
                refine je_ifeq jb_X12_street rfl (t := 87) rfl (pc' := 83) rfl (by first | omega | exact (hM _ _).1 | exact (hM _ _).2) (by first | omega | exact (hM _ _).1 | exact (hM _ _).2) (fun c80 => ?_) (fun c80 => ?_)
                · refine je_ps jb_X12_street 1 (pc' := 89) (ls' := [_, _, _, _]) (st' := [_, _]) rfl ?_
                  refine je_putI jb_X12_street rfl (pc' := 92) rfl (j := 2) (a := 45) rfl (by rfl) (by rfl) (by rfl) (by rfl) ?_
                  rw [jU_same, jU_jU]
                  refine je_ps jb_X12_street 2 (pc' := 94) (ls' := [_, _, _, _]) (st' := [_, _]) rfl ?_
                  refine je_get jb_X12_street rfl (pc' := 97) rfl (jh_at (a := 45) rfl) (by rfl) (by rfl) ?_
                  rw [jU_same, ju_ne (by decide), ju_same]
                  refine je_ifeq jb_X12_street rfl (t := 104) rfl (pc' := 100) rfl (by first | omega | exact (hM _ _).1 | exact (hM _ _).2) (by first | omega | exact (hM _ _).1 | exact (hM _ _).2) (fun c97 => ?_) (fun c97 => ?_)
                  · refine je_ps jb_X12_street 1 (pc' := 106) (ls' := [_, _, _, _]) (st' := [_, _]) rfl ?_
                    refine je_putI jb_X12_street rfl (pc' := 109) rfl (j := 3) (a := 45) rfl (by rfl) (by rfl) (by rfl) (by rfl) ?_
                    rw [jU_same, jU_jU]
                    refine je_ps jb_X12_street 2 (pc' := 111) (ls' := [_, _, _, _]) (st' := [_, _]) rfl ?_
                    refine je_putI jb_X12_street rfl (pc' := 114) rfl (j := 4) (a := 45) rfl (by rfl) (by rfl) (by rfl) (by rfl) ?_
                    rw [jU_same, jU_jU]
                    refine je_ps jb_X12_street 2 (pc' := 116) (ls' := [_, _, _, _]) (st' := [_, _]) rfl ?_
                    refine je_putI jb_X12_street rfl (pc' := 119) rfl (j := 5) (a := 45) rfl (by rfl) (by rfl) (by rfl) (by rfl) ?_
                    rw [jU_same, jU_jU]
                    refine je_ps jb_X12_street 2 (pc' := 121) (ls' := [_, _, _, _]) (st' := [_, _]) rfl ?_
                    refine je_putI jb_X12_street rfl (pc' := 124) rfl (j := 8) (a := 45) rfl (by rfl) (by rfl) (by rfl) (by rfl) ?_
                    rw [jU_same, jU_jU]
                    refine je_ps jb_X12_street 1 (pc' := 125) (ls' := [_, _, _, _]) (st' := [_]) rfl ?_
                    refine je_get jb_X12_street rfl (pc' := 128) rfl (jh_at (a := 45) rfl) (by rfl) (by rfl) ?_
                    rw [jU_same, ju_ne (by decide), ju_ne (by decide), ju_ne (by decide), ju_ne (by decide), ju_same]
                    first | (exfalso; omega) | (have ex : x = 1 := (by omega); have e3 : (if x = 1 then y else (25 : Int)) = y := (if_pos ex); rw [show aStreet A x y z = (y, sSt A x y z) from by unfold aStreet; rw [if_neg (by omega), if_neg (by omega), if_neg (by omega), e3]]; exact je_ret jb_X12_street rfl (by rfl) ⟨_, rfl, rfl, J.street (by unfold fS; omega) (by rw [ex]; rfl), (kC.rfl' m).u (by decide) _⟩) | (have ex : x = 0 := (by omega); have e3 : (if x = 1 then y else (25 : Int)) = 25 := (if_neg (by omega)); rw [show aStreet A x y z = (25, sSt A x 25 z) from by unfold aStreet; rw [if_neg (by omega), if_neg (by omega), if_neg (by omega), e3]]; exact je_ret jb_X12_street rfl (by rfl) ⟨_, rfl, rfl, J.street (by unfold fS; omega) (by rw [ex]; rfl), (kC.rfl' m).u (by decide) _⟩)
                  · refine je_ps jb_X12_street 2 (pc' := 106) (ls' := [_, _, _, _]) (st' := [_, _]) rfl ?_
                    refine je_putI jb_X12_street rfl (pc' := 109) rfl (j := 3) (a := 45) rfl (by rfl) (by rfl) (by rfl) (by rfl) ?_
                    rw [jU_same, jU_jU]
                    refine je_ps jb_X12_street 2 (pc' := 111) (ls' := [_, _, _, _]) (st' := [_, _]) rfl ?_
                    refine je_putI jb_X12_street rfl (pc' := 114) rfl (j := 4) (a := 45) rfl (by rfl) (by rfl) (by rfl) (by rfl) ?_
                    rw [jU_same, jU_jU]
                    refine je_ps jb_X12_street 2 (pc' := 116) (ls' := [_, _, _, _]) (st' := [_, _]) rfl ?_
                    refine je_putI jb_X12_street rfl (pc' := 119) rfl (j := 5) (a := 45) rfl (by rfl) (by rfl) (by rfl) (by rfl) ?_
                    rw [jU_same, jU_jU]
                    refine je_ps jb_X12_street 2 (pc' := 121) (ls' := [_, _, _, _]) (st' := [_, _]) rfl ?_
                    refine je_putI jb_X12_street rfl (pc' := 124) rfl (j := 8) (a := 45) rfl (by rfl) (by rfl) (by rfl) (by rfl) ?_
                    rw [jU_same, jU_jU]
                    refine je_ps jb_X12_street 1 (pc' := 125) (ls' := [_, _, _, _]) (st' := [_]) rfl ?_
                    refine je_get jb_X12_street rfl (pc' := 128) rfl (jh_at (a := 45) rfl) (by rfl) (by rfl) ?_
                    rw [jU_same, ju_ne (by decide), ju_ne (by decide), ju_ne (by decide), ju_ne (by decide), ju_same]
                    first | (exfalso; omega) | (have ex : x = 1 := (by omega); have e3 : (if x = 1 then y else (25 : Int)) = y := (if_pos ex); rw [show aStreet A x y z = (y, sSt A x y z) from by unfold aStreet; rw [if_neg (by omega), if_neg (by omega), if_neg (by omega), e3]]; exact je_ret jb_X12_street rfl (by rfl) ⟨_, rfl, rfl, J.street (by unfold fS; omega) (by rw [ex]; rfl), (kC.rfl' m).u (by decide) _⟩) | (have ex : x = 0 := (by omega); have e3 : (if x = 1 then y else (25 : Int)) = 25 := (if_neg (by omega)); rw [show aStreet A x y z = (25, sSt A x 25 z) from by unfold aStreet; rw [if_neg (by omega), if_neg (by omega), if_neg (by omega), e3]]; exact je_ret jb_X12_street rfl (by rfl) ⟨_, rfl, rfl, J.street (by unfold fS; omega) (by rw [ex]; rfl), (kC.rfl' m).u (by decide) _⟩)
                · refine je_ps jb_X12_street 2 (pc' := 89) (ls' := [_, _, _, _]) (st' := [_, _]) rfl ?_
                  refine je_putI jb_X12_street rfl (pc' := 92) rfl (j := 2) (a := 45) rfl (by rfl) (by rfl) (by rfl) (by rfl) ?_
                  rw [jU_same, jU_jU]
                  refine je_ps jb_X12_street 2 (pc' := 94) (ls' := [_, _, _, _]) (st' := [_, _]) rfl ?_
                  refine je_get jb_X12_street rfl (pc' := 97) rfl (jh_at (a := 45) rfl) (by rfl) (by rfl) ?_
                  rw [jU_same, ju_ne (by decide), ju_same]
                  refine je_ifeq jb_X12_street rfl (t := 104) rfl (pc' := 100) rfl (by first | omega | exact (hM _ _).1 | exact (hM _ _).2) (by first | omega | exact (hM _ _).1 | exact (hM _ _).2) (fun c97 => ?_) (fun c97 => ?_)
                  · refine je_ps jb_X12_street 1 (pc' := 106) (ls' := [_, _, _, _]) (st' := [_, _]) rfl ?_
                    refine je_putI jb_X12_street rfl (pc' := 109) rfl (j := 3) (a := 45) rfl (by rfl) (by rfl) (by rfl) (by rfl) ?_
                    rw [jU_same, jU_jU]
                    refine je_ps jb_X12_street 2 (pc' := 111) (ls' := [_, _, _, _]) (st' := [_, _]) rfl ?_
                    refine je_putI jb_X12_street rfl (pc' := 114) rfl (j := 4) (a := 45) rfl (by rfl) (by rfl) (by rfl) (by rfl) ?_
                    rw [jU_same, jU_jU]
                    refine je_ps jb_X12_street 2 (pc' := 116) (ls' := [_, _, _, _]) (st' := [_, _]) rfl ?_
                    refine je_putI jb_X12_street rfl (pc' := 119) rfl (j := 5) (a := 45) rfl (by rfl) (by rfl) (by rfl) (by rfl) ?_
                    rw [jU_same, jU_jU]
                    refine je_ps jb_X12_street 2 (pc' := 121) (ls' := [_, _, _, _]) (st' := [_, _]) rfl ?_
                    refine je_putI jb_X12_street rfl (pc' := 124) rfl (j := 8) (a := 45) rfl (by rfl) (by rfl) (by rfl) (by rfl) ?_
                    rw [jU_same, jU_jU]
                    refine je_ps jb_X12_street 1 (pc' := 125) (ls' := [_, _, _, _]) (st' := [_]) rfl ?_
                    refine je_get jb_X12_street rfl (pc' := 128) rfl (jh_at (a := 45) rfl) (by rfl) (by rfl) ?_
                    rw [jU_same, ju_ne (by decide), ju_ne (by decide), ju_ne (by decide), ju_ne (by decide), ju_same]
                    first | (exfalso; omega) | (have ex : x = 1 := (by omega); have e3 : (if x = 1 then y else (25 : Int)) = y := (if_pos ex); rw [show aStreet A x y z = (y, sSt A x y z) from by unfold aStreet; rw [if_neg (by omega), if_neg (by omega), if_neg (by omega), e3]]; exact je_ret jb_X12_street rfl (by rfl) ⟨_, rfl, rfl, J.street (by unfold fS; omega) (by rw [ex]; rfl), (kC.rfl' m).u (by decide) _⟩) | (have ex : x = 0 := (by omega); have e3 : (if x = 1 then y else (25 : Int)) = 25 := (if_neg (by omega)); rw [show aStreet A x y z = (25, sSt A x 25 z) from by unfold aStreet; rw [if_neg (by omega), if_neg (by omega), if_neg (by omega), e3]]; exact je_ret jb_X12_street rfl (by rfl) ⟨_, rfl, rfl, J.street (by unfold fS; omega) (by rw [ex]; rfl), (kC.rfl' m).u (by decide) _⟩)
                  · refine je_ps jb_X12_street 2 (pc' := 106) (ls' := [_, _, _, _]) (st' := [_, _]) rfl ?_
                    refine je_putI jb_X12_street rfl (pc' := 109) rfl (j := 3) (a := 45) rfl (by rfl) (by rfl) (by rfl) (by rfl) ?_
                    rw [jU_same, jU_jU]
                    refine je_ps jb_X12_street 2 (pc' := 111) (ls' := [_, _, _, _]) (st' := [_, _]) rfl ?_
                    refine je_putI jb_X12_street rfl (pc' := 114) rfl (j := 4) (a := 45) rfl (by rfl) (by rfl) (by rfl) (by rfl) ?_
                    rw [jU_same, jU_jU]
                    refine je_ps jb_X12_street 2 (pc' := 116) (ls' := [_, _, _, _]) (st' := [_, _]) rfl ?_
                    refine je_putI jb_X12_street rfl (pc' := 119) rfl (j := 5) (a := 45) rfl (by rfl) (by rfl) (by rfl) (by rfl) ?_
                    rw [jU_same, jU_jU]
                    refine je_ps jb_X12_street 2 (pc' := 121) (ls' := [_, _, _, _]) (st' := [_, _]) rfl ?_
                    refine je_putI jb_X12_street rfl (pc' := 124) rfl (j := 8) (a := 45) rfl (by rfl) (by rfl) (by rfl) (by rfl) ?_
                    rw [jU_same, jU_jU]
                    refine je_ps jb_X12_street 1 (pc' := 125) (ls' := [_, _, _, _]) (st' := [_]) rfl ?_
                    refine je_get jb_X12_street rfl (pc' := 128) rfl (jh_at (a := 45) rfl) (by rfl) (by rfl) ?_
                    rw [jU_same, ju_ne (by decide), ju_ne (by decide), ju_ne (by decide), ju_ne (by decide), ju_same]
                    first | (exfalso; omega) | (have ex : x = 1 := (by omega); have e3 : (if x = 1 then y else (25 : Int)) = y := (if_pos ex); rw [show aStreet A x y z = (y, sSt A x y z) from by unfold aStreet; rw [if_neg (by omega), if_neg (by omega), if_neg (by omega), e3]]; exact je_ret jb_X12_street rfl (by rfl) ⟨_, rfl, rfl, J.street (by unfold fS; omega) (by rw [ex]; rfl), (kC.rfl' m).u (by decide) _⟩) | (have ex : x = 0 := (by omega); have e3 : (if x = 1 then y else (25 : Int)) = 25 := (if_neg (by omega)); rw [show aStreet A x y z = (25, sSt A x 25 z) from by unfold aStreet; rw [if_neg (by omega), if_neg (by omega), if_neg (by omega), e3]]; exact je_ret jb_X12_street rfl (by rfl) ⟨_, rfl, rfl, J.street (by unfold fS; omega) (by rw [ex]; rfl), (kC.rfl' m).u (by decide) _⟩)
            · refine je_ps jb_X12_street 2 (pc' := 57) (ls' := [_, _, _, _]) (st' := [_, _]) rfl ?_
              refine je_cvP' jb_X12_street rfl (pc' := 60) rfl (jh_at (a := 45) rfl) (by rfl) (by first | decide | exact Nat.ble_eq_true_of_le (by omega)) (c_X12_refused (by omega)) (st' := [_]) rfl ?_
              rw [show aStreet A x y z = aRef A (-6) from by unfold aStreet; rw [if_neg (by omega), if_neg (by omega), if_pos (by omega)]]
              exact je_ret jb_X12_street rfl (by rfl) ⟨_, rfl, rfl, J.ref (by omega), (kC.rfl' m).u (by decide) _⟩
      · refine je_ps jb_X12_street 2 (pc' := 34) (ls' := [_, _, _, _]) (st' := [_, _]) rfl ?_
        refine je_cvP' jb_X12_street rfl (pc' := 37) rfl (jh_at (a := 45) rfl) (by rfl) (by first | decide | exact Nat.ble_eq_true_of_le (by omega)) (c_X12_refused (by omega)) (st' := [_]) rfl ?_
        rw [show aStreet A x y z = aRef A (-4) from by unfold aStreet; rw [if_neg (by omega), if_pos (by omega)]]
        exact je_ret jb_X12_street rfl (by rfl) ⟨_, rfl, rfl, J.ref (by omega), (kC.rfl' m).u (by decide) _⟩
    · refine je_ps jb_X12_street 2 (pc' := 23) (ls' := [_, _, _, _]) (st' := [_, _]) rfl ?_
      refine je_icmplt jb_X12_street rfl (t := 31) rfl (pc' := 26) rfl (by first | omega | exact (hM _ _).1 | exact (hM _ _).2) (by first | omega | exact (hM _ _).1 | exact (hM _ _).2) (by first | omega | exact (hM _ _).1 | exact (hM _ _).2) (by first | omega | exact (hM _ _).1 | exact (hM _ _).2) (fun c23 => ?_) (fun c23 => ?_)
      · refine je_ps jb_X12_street 2 (pc' := 34) (ls' := [_, _, _, _]) (st' := [_, _]) rfl ?_
        refine je_cvP' jb_X12_street rfl (pc' := 37) rfl (jh_at (a := 45) rfl) (by rfl) (by first | decide | exact Nat.ble_eq_true_of_le (by omega)) (c_X12_refused (by omega)) (st' := [_]) rfl ?_
        rw [show aStreet A x y z = aRef A (-4) from by unfold aStreet; rw [if_neg (by omega), if_pos (by omega)]]
        exact je_ret jb_X12_street rfl (by rfl) ⟨_, rfl, rfl, J.ref (by omega), (kC.rfl' m).u (by decide) _⟩
      · refine je_ps jb_X12_street 2 (pc' := 28) (ls' := [_, _, _, _]) (st' := [_, _]) rfl ?_
        refine je_icmpge jb_X12_street rfl (t := 38) rfl (pc' := 31) rfl (by first | omega | exact (hM _ _).1 | exact (hM _ _).2) (by first | omega | exact (hM _ _).1 | exact (hM _ _).2) (by first | omega | exact (hM _ _).1 | exact (hM _ _).2) (by first | omega | exact (hM _ _).1 | exact (hM _ _).2) (fun c28 => ?_) (fun c28 => ?_)
        · refine je_ps jb_X12_street 2 (pc' := 40) (ls' := [_, _, _, _]) (st' := [_, _]) rfl ?_
          refine je_icmpne jb_X12_street rfl (t := 49) rfl (pc' := 43) rfl (by first | omega | exact (hM _ _).1 | exact (hM _ _).2) (by first | omega | exact (hM _ _).1 | exact (hM _ _).2) (by first | omega | exact (hM _ _).1 | exact (hM _ _).2) (by first | omega | exact (hM _ _).1 | exact (hM _ _).2) (fun c40 => ?_) (fun c40 => ?_)
          · refine je_ps jb_X12_street 2 (pc' := 51) (ls' := [_, _, _, _]) (st' := [_, _]) rfl ?_
            refine je_icmple jb_X12_street rfl (t := 61) rfl (pc' := 54) rfl (by first | omega | exact (hM _ _).1 | exact (hM _ _).2) (by first | omega | exact (hM _ _).1 | exact (hM _ _).2) (by first | omega | exact (hM _ _).1 | exact (hM _ _).2) (by first | omega | exact (hM _ _).1 | exact (hM _ _).2) (fun c51 => ?_) (fun c51 => ?_)
            · refine je_ps jb_X12_street 3 (pc' := 64) (ls' := [_, _, _, _]) (st' := [_, _, _]) rfl ?_
              refine je_icmpne jb_X12_street rfl (t := 71) rfl (pc' := 67) rfl (by first | omega | exact (hM _ _).1 | exact (hM _ _).2) (by first | omega | exact (hM _ _).1 | exact (hM _ _).2) (by first | omega | exact (hM _ _).1 | exact (hM _ _).2) (by first | omega | exact (hM _ _).1 | exact (hM _ _).2) (fun c64 => ?_) (fun c64 => ?_)
              · refine je_ps jb_X12_street 1 (pc' := 72) (ls' := [_, _, _, _]) (st' := [_, _]) rfl ?_
                refine je_putI jb_X12_street rfl (pc' := 75) rfl (j := 1) (a := 45) rfl (by rfl) (by rfl) (by rfl) (by rfl) ?_
                refine je_ps jb_X12_street 2 (pc' := 77) (ls' := [_, _, _, _]) (st' := [_, _]) rfl ?_
                refine je_get jb_X12_street rfl (pc' := 80) rfl (jh_at (a := 45) rfl) (by rfl) (by rfl) ?_
                rw [jU_same, ju_same]
                refine je_ifeq jb_X12_street rfl (t := 87) rfl (pc' := 83) rfl (by first | omega | exact (hM _ _).1 | exact (hM _ _).2) (by first | omega | exact (hM _ _).1 | exact (hM _ _).2) (fun c80 => ?_) (fun c80 => ?_)
                · refine je_ps jb_X12_street 1 (pc' := 89) (ls' := [_, _, _, _]) (st' := [_, _]) rfl ?_
                  refine je_putI jb_X12_street rfl (pc' := 92) rfl (j := 2) (a := 45) rfl (by rfl) (by rfl) (by rfl) (by rfl) ?_
                  rw [jU_same, jU_jU]
                  refine je_ps jb_X12_street 2 (pc' := 94) (ls' := [_, _, _, _]) (st' := [_, _]) rfl ?_
                  refine je_get jb_X12_street rfl (pc' := 97) rfl (jh_at (a := 45) rfl) (by rfl) (by rfl) ?_
                  rw [jU_same, ju_ne (by decide), ju_same]
                  refine je_ifeq jb_X12_street rfl (t := 104) rfl (pc' := 100) rfl (by first | omega | exact (hM _ _).1 | exact (hM _ _).2) (by first | omega | exact (hM _ _).1 | exact (hM _ _).2) (fun c97 => ?_) (fun c97 => ?_)
                  · refine je_ps jb_X12_street 1 (pc' := 106) (ls' := [_, _, _, _]) (st' := [_, _]) rfl ?_
                    refine je_putI jb_X12_street rfl (pc' := 109) rfl (j := 3) (a := 45) rfl (by rfl) (by rfl) (by rfl) (by rfl) ?_
                    rw [jU_same, jU_jU]
                    refine je_ps jb_X12_street 2 (pc' := 111) (ls' := [_, _, _, _]) (st' := [_, _]) rfl ?_
                    refine je_putI jb_X12_street rfl (pc' := 114) rfl (j := 4) (a := 45) rfl (by rfl) (by rfl) (by rfl) (by rfl) ?_
                    rw [jU_same, jU_jU]
                    refine je_ps jb_X12_street 2 (pc' := 116) (ls' := [_, _, _, _]) (st' := [_, _]) rfl ?_
                    refine je_putI jb_X12_street rfl (pc' := 119) rfl (j := 5) (a := 45) rfl (by rfl) (by rfl) (by rfl) (by rfl) ?_
                    rw [jU_same, jU_jU]
                    refine je_ps jb_X12_street 2 (pc' := 121) (ls' := [_, _, _, _]) (st' := [_, _]) rfl ?_
                    refine je_putI jb_X12_street rfl (pc' := 124) rfl (j := 8) (a := 45) rfl (by rfl) (by rfl) (by rfl) (by rfl) ?_
                    rw [jU_same, jU_jU]
                    refine je_ps jb_X12_street 1 (pc' := 125) (ls' := [_, _, _, _]) (st' := [_]) rfl ?_
                    refine je_get jb_X12_street rfl (pc' := 128) rfl (jh_at (a := 45) rfl) (by rfl) (by rfl) ?_
                    rw [jU_same, ju_ne (by decide), ju_ne (by decide), ju_ne (by decide), ju_ne (by decide), ju_same]
                    first | (exfalso; omega) | (have ex : x = 1 := (by omega); have e3 : (if x = 1 then y else (25 : Int)) = y := (if_pos ex); rw [show aStreet A x y z = (y, sSt A x y z) from by unfold aStreet; rw [if_neg (by omega), if_neg (by omega), if_neg (by omega), e3]]; exact je_ret jb_X12_street rfl (by rfl) ⟨_, rfl, rfl, J.street (by unfold fS; omega) (by rw [ex]; rfl), (kC.rfl' m).u (by decide) _⟩) | (have ex : x = 0 := (by omega); have e3 : (if x = 1 then y else (25 : Int)) = 25 := (if_neg (by omega)); rw [show aStreet A x y z = (25, sSt A x 25 z) from by unfold aStreet; rw [if_neg (by omega), if_neg (by omega), if_neg (by omega), e3]]; exact je_ret jb_X12_street rfl (by rfl) ⟨_, rfl, rfl, J.street (by unfold fS; omega) (by rw [ex]; rfl), (kC.rfl' m).u (by decide) _⟩)
                  · refine je_ps jb_X12_street 2 (pc' := 106) (ls' := [_, _, _, _]) (st' := [_, _]) rfl ?_
                    refine je_putI jb_X12_street rfl (pc' := 109) rfl (j := 3) (a := 45) rfl (by rfl) (by rfl) (by rfl) (by rfl) ?_
                    rw [jU_same, jU_jU]
                    refine je_ps jb_X12_street 2 (pc' := 111) (ls' := [_, _, _, _]) (st' := [_, _]) rfl ?_
                    refine je_putI jb_X12_street rfl (pc' := 114) rfl (j := 4) (a := 45) rfl (by rfl) (by rfl) (by rfl) (by rfl) ?_
                    rw [jU_same, jU_jU]
                    refine je_ps jb_X12_street 2 (pc' := 116) (ls' := [_, _, _, _]) (st' := [_, _]) rfl ?_
                    refine je_putI jb_X12_street rfl (pc' := 119) rfl (j := 5) (a := 45) rfl (by rfl) (by rfl) (by rfl) (by rfl) ?_
                    rw [jU_same, jU_jU]
                    refine je_ps jb_X12_street 2 (pc' := 121) (ls' := [_, _, _, _]) (st' := [_, _]) rfl ?_
                    refine je_putI jb_X12_street rfl (pc' := 124) rfl (j := 8) (a := 45) rfl (by rfl) (by rfl) (by rfl) (by rfl) ?_
                    rw [jU_same, jU_jU]
                    refine je_ps jb_X12_street 1 (pc' := 125) (ls' := [_, _, _, _]) (st' := [_]) rfl ?_
                    refine je_get jb_X12_street rfl (pc' := 128) rfl (jh_at (a := 45) rfl) (by rfl) (by rfl) ?_
                    rw [jU_same, ju_ne (by decide), ju_ne (by decide), ju_ne (by decide), ju_ne (by decide), ju_same]
                    first | (exfalso; omega) | (have ex : x = 1 := (by omega); have e3 : (if x = 1 then y else (25 : Int)) = y := (if_pos ex); rw [show aStreet A x y z = (y, sSt A x y z) from by unfold aStreet; rw [if_neg (by omega), if_neg (by omega), if_neg (by omega), e3]]; exact je_ret jb_X12_street rfl (by rfl) ⟨_, rfl, rfl, J.street (by unfold fS; omega) (by rw [ex]; rfl), (kC.rfl' m).u (by decide) _⟩) | (have ex : x = 0 := (by omega); have e3 : (if x = 1 then y else (25 : Int)) = 25 := (if_neg (by omega)); rw [show aStreet A x y z = (25, sSt A x 25 z) from by unfold aStreet; rw [if_neg (by omega), if_neg (by omega), if_neg (by omega), e3]]; exact je_ret jb_X12_street rfl (by rfl) ⟨_, rfl, rfl, J.street (by unfold fS; omega) (by rw [ex]; rfl), (kC.rfl' m).u (by decide) _⟩)
                · refine je_ps jb_X12_street 2 (pc' := 89) (ls' := [_, _, _, _]) (st' := [_, _]) rfl ?_
                  refine je_putI jb_X12_street rfl (pc' := 92) rfl (j := 2) (a := 45) rfl (by rfl) (by rfl) (by rfl) (by rfl) ?_
                  rw [jU_same, jU_jU]
                  refine je_ps jb_X12_street 2 (pc' := 94) (ls' := [_, _, _, _]) (st' := [_, _]) rfl ?_
                  refine je_get jb_X12_street rfl (pc' := 97) rfl (jh_at (a := 45) rfl) (by rfl) (by rfl) ?_
                  rw [jU_same, ju_ne (by decide), ju_same]
                  refine je_ifeq jb_X12_street rfl (t := 104) rfl (pc' := 100) rfl (by first | omega | exact (hM _ _).1 | exact (hM _ _).2) (by first | omega | exact (hM _ _).1 | exact (hM _ _).2) (fun c97 => ?_) (fun c97 => ?_)
                  · refine je_ps jb_X12_street 1 (pc' := 106) (ls' := [_, _, _, _]) (st' := [_, _]) rfl ?_
                    refine je_putI jb_X12_street rfl (pc' := 109) rfl (j := 3) (a := 45) rfl (by rfl) (by rfl) (by rfl) (by rfl) ?_
                    rw [jU_same, jU_jU]
                    refine je_ps jb_X12_street 2 (pc' := 111) (ls' := [_, _, _, _]) (st' := [_, _]) rfl ?_
                    refine je_putI jb_X12_street rfl (pc' := 114) rfl (j := 4) (a := 45) rfl (by rfl) (by rfl) (by rfl) (by rfl) ?_
                    rw [jU_same, jU_jU]
                    refine je_ps jb_X12_street 2 (pc' := 116) (ls' := [_, _, _, _]) (st' := [_, _]) rfl ?_
                    refine je_putI jb_X12_street rfl (pc' := 119) rfl (j := 5) (a := 45) rfl (by rfl) (by rfl) (by rfl) (by rfl) ?_
                    rw [jU_same, jU_jU]
                    refine je_ps jb_X12_street 2 (pc' := 121) (ls' := [_, _, _, _]) (st' := [_, _]) rfl ?_
                    refine je_putI jb_X12_street rfl (pc' := 124) rfl (j := 8) (a := 45) rfl (by rfl) (by rfl) (by rfl) (by rfl) ?_
                    rw [jU_same, jU_jU]
                    refine je_ps jb_X12_street 1 (pc' := 125) (ls' := [_, _, _, _]) (st' := [_]) rfl ?_
                    refine je_get jb_X12_street rfl (pc' := 128) rfl (jh_at (a := 45) rfl) (by rfl) (by rfl) ?_
                    rw [jU_same, ju_ne (by decide), ju_ne (by decide), ju_ne (by decide), ju_ne (by decide), ju_same]
                    first | (exfalso; omega) | (have ex : x = 1 := (by omega); have e3 : (if x = 1 then y else (25 : Int)) = y := (if_pos ex); rw [show aStreet A x y z = (y, sSt A x y z) from by unfold aStreet; rw [if_neg (by omega), if_neg (by omega), if_neg (by omega), e3]]; exact je_ret jb_X12_street rfl (by rfl) ⟨_, rfl, rfl, J.street (by unfold fS; omega) (by rw [ex]; rfl), (kC.rfl' m).u (by decide) _⟩) | (have ex : x = 0 := (by omega); have e3 : (if x = 1 then y else (25 : Int)) = 25 := (if_neg (by omega)); rw [show aStreet A x y z = (25, sSt A x 25 z) from by unfold aStreet; rw [if_neg (by omega), if_neg (by omega), if_neg (by omega), e3]]; exact je_ret jb_X12_street rfl (by rfl) ⟨_, rfl, rfl, J.street (by unfold fS; omega) (by rw [ex]; rfl), (kC.rfl' m).u (by decide) _⟩)
                  · refine je_ps jb_X12_street 2 (pc' := 106) (ls' := [_, _, _, _]) (st' := [_, _]) rfl ?_
                    refine je_putI jb_X12_street rfl (pc' := 109) rfl (j := 3) (a := 45) rfl (by rfl) (by rfl) (by rfl) (by rfl) ?_
                    rw [jU_same, jU_jU]
                    refine je_ps jb_X12_street 2 (pc' := 111) (ls' := [_, _, _, _]) (st' := [_, _]) rfl ?_
                    refine je_putI jb_X12_street rfl (pc' := 114) rfl (j := 4) (a := 45) rfl (by rfl) (by rfl) (by rfl) (by rfl) ?_
                    rw [jU_same, jU_jU]
                    refine je_ps jb_X12_street 2 (pc' := 116) (ls' := [_, _, _, _]) (st' := [_, _]) rfl ?_
                    refine je_putI jb_X12_street rfl (pc' := 119) rfl (j := 5) (a := 45) rfl (by rfl) (by rfl) (by rfl) (by rfl) ?_
                    rw [jU_same, jU_jU]
                    refine je_ps jb_X12_street 2 (pc' := 121) (ls' := [_, _, _, _]) (st' := [_, _]) rfl ?_
                    refine je_putI jb_X12_street rfl (pc' := 124) rfl (j := 8) (a := 45) rfl (by rfl) (by rfl) (by rfl) (by rfl) ?_
                    rw [jU_same, jU_jU]
                    refine je_ps jb_X12_street 1 (pc' := 125) (ls' := [_, _, _, _]) (st' := [_]) rfl ?_
                    refine je_get jb_X12_street rfl (pc' := 128) rfl (jh_at (a := 45) rfl) (by rfl) (by rfl) ?_
                    rw [jU_same, ju_ne (by decide), ju_ne (by decide), ju_ne (by decide), ju_ne (by decide), ju_same]
                    first | (exfalso; omega) | (have ex : x = 1 := (by omega); have e3 : (if x = 1 then y else (25 : Int)) = y := (if_pos ex); rw [show aStreet A x y z = (y, sSt A x y z) from by unfold aStreet; rw [if_neg (by omega), if_neg (by omega), if_neg (by omega), e3]]; exact je_ret jb_X12_street rfl (by rfl) ⟨_, rfl, rfl, J.street (by unfold fS; omega) (by rw [ex]; rfl), (kC.rfl' m).u (by decide) _⟩) | (have ex : x = 0 := (by omega); have e3 : (if x = 1 then y else (25 : Int)) = 25 := (if_neg (by omega)); rw [show aStreet A x y z = (25, sSt A x 25 z) from by unfold aStreet; rw [if_neg (by omega), if_neg (by omega), if_neg (by omega), e3]]; exact je_ret jb_X12_street rfl (by rfl) ⟨_, rfl, rfl, J.street (by unfold fS; omega) (by rw [ex]; rfl), (kC.rfl' m).u (by decide) _⟩)
              · refine je_ps jb_X12_street 2 (pc' := 72) (ls' := [_, _, _, _]) (st' := [_, _]) rfl ?_
                refine je_putI jb_X12_street rfl (pc' := 75) rfl (j := 1) (a := 45) rfl (by rfl) (by rfl) (by rfl) (by rfl) ?_
                refine je_ps jb_X12_street 2 (pc' := 77) (ls' := [_, _, _, _]) (st' := [_, _]) rfl ?_
                refine je_get jb_X12_street rfl (pc' := 80) rfl (jh_at (a := 45) rfl) (by rfl) (by rfl) ?_
                rw [jU_same, ju_same]
                refine je_ifeq jb_X12_street rfl (t := 87) rfl (pc' := 83) rfl (by first | omega | exact (hM _ _).1 | exact (hM _ _).2) (by first | omega | exact (hM _ _).1 | exact (hM _ _).2) (fun c80 => ?_) (fun c80 => ?_)
                · refine je_ps jb_X12_street 1 (pc' := 89) (ls' := [_, _, _, _]) (st' := [_, _]) rfl ?_
                  refine je_putI jb_X12_street rfl (pc' := 92) rfl (j := 2) (a := 45) rfl (by rfl) (by rfl) (by rfl) (by rfl) ?_
                  rw [jU_same, jU_jU]
                  refine je_ps jb_X12_street 2 (pc' := 94) (ls' := [_, _, _, _]) (st' := [_, _]) rfl ?_
                  refine je_get jb_X12_street rfl (pc' := 97) rfl (jh_at (a := 45) rfl) (by rfl) (by rfl) ?_
                  rw [jU_same, ju_ne (by decide), ju_same]
                  refine je_ifeq jb_X12_street rfl (t := 104) rfl (pc' := 100) rfl (by first | omega | exact (hM _ _).1 | exact (hM _ _).2) (by first | omega | exact (hM _ _).1 | exact (hM _ _).2) (fun c97 => ?_) (fun c97 => ?_)
                  · refine je_ps jb_X12_street 1 (pc' := 106) (ls' := [_, _, _, _]) (st' := [_, _]) rfl ?_
                    refine je_putI jb_X12_street rfl (pc' := 109) rfl (j := 3) (a := 45) rfl (by rfl) (by rfl) (by rfl) (by rfl) ?_
                    rw [jU_same, jU_jU]
                    refine je_ps jb_X12_street 2 (pc' := 111) (ls' := [_, _, _, _]) (st' := [_, _]) rfl ?_
                    refine je_putI jb_X12_street rfl (pc' := 114) rfl (j := 4) (a := 45) rfl (by rfl) (by rfl) (by rfl) (by rfl) ?_
                    rw [jU_same, jU_jU]
                    refine je_ps jb_X12_street 2 (pc' := 116) (ls' := [_, _, _, _]) (st' := [_, _]) rfl ?_
                    refine je_putI jb_X12_street rfl (pc' := 119) rfl (j := 5) (a := 45) rfl (by rfl) (by rfl) (by rfl) (by rfl) ?_
                    rw [jU_same, jU_jU]
                    refine je_ps jb_X12_street 2 (pc' := 121) (ls' := [_, _, _, _]) (st' := [_, _]) rfl ?_
                    refine je_putI jb_X12_street rfl (pc' := 124) rfl (j := 8) (a := 45) rfl (by rfl) (by rfl) (by rfl) (by rfl) ?_
                    rw [jU_same, jU_jU]
                    refine je_ps jb_X12_street 1 (pc' := 125) (ls' := [_, _, _, _]) (st' := [_]) rfl ?_
                    refine je_get jb_X12_street rfl (pc' := 128) rfl (jh_at (a := 45) rfl) (by rfl) (by rfl) ?_
                    rw [jU_same, ju_ne (by decide), ju_ne (by decide), ju_ne (by decide), ju_ne (by decide), ju_same]
                    first | (exfalso; omega) | (have ex : x = 1 := (by omega); have e3 : (if x = 1 then y else (25 : Int)) = y := (if_pos ex); rw [show aStreet A x y z = (y, sSt A x y z) from by unfold aStreet; rw [if_neg (by omega), if_neg (by omega), if_neg (by omega), e3]]; exact je_ret jb_X12_street rfl (by rfl) ⟨_, rfl, rfl, J.street (by unfold fS; omega) (by rw [ex]; rfl), (kC.rfl' m).u (by decide) _⟩) | (have ex : x = 0 := (by omega); have e3 : (if x = 1 then y else (25 : Int)) = 25 := (if_neg (by omega)); rw [show aStreet A x y z = (25, sSt A x 25 z) from by unfold aStreet; rw [if_neg (by omega), if_neg (by omega), if_neg (by omega), e3]]; exact je_ret jb_X12_street rfl (by rfl) ⟨_, rfl, rfl, J.street (by unfold fS; omega) (by rw [ex]; rfl), (kC.rfl' m).u (by decide) _⟩)
                  · refine je_ps jb_X12_street 2 (pc' := 106) (ls' := [_, _, _, _]) (st' := [_, _]) rfl ?_
                    refine je_putI jb_X12_street rfl (pc' := 109) rfl (j := 3) (a := 45) rfl (by rfl) (by rfl) (by rfl) (by rfl) ?_
                    rw [jU_same, jU_jU]
                    refine je_ps jb_X12_street 2 (pc' := 111) (ls' := [_, _, _, _]) (st' := [_, _]) rfl ?_
                    refine je_putI jb_X12_street rfl (pc' := 114) rfl (j := 4) (a := 45) rfl (by rfl) (by rfl) (by rfl) (by rfl) ?_
                    rw [jU_same, jU_jU]
                    refine je_ps jb_X12_street 2 (pc' := 116) (ls' := [_, _, _, _]) (st' := [_, _]) rfl ?_
                    refine je_putI jb_X12_street rfl (pc' := 119) rfl (j := 5) (a := 45) rfl (by rfl) (by rfl) (by rfl) (by rfl) ?_
                    rw [jU_same, jU_jU]
                    refine je_ps jb_X12_street 2 (pc' := 121) (ls' := [_, _, _, _]) (st' := [_, _]) rfl ?_
                    refine je_putI jb_X12_street rfl (pc' := 124) rfl (j := 8) (a := 45) rfl (by rfl) (by rfl) (by rfl) (by rfl) ?_
                    rw [jU_same, jU_jU]
                    refine je_ps jb_X12_street 1 (pc' := 125) (ls' := [_, _, _, _]) (st' := [_]) rfl ?_
                    refine je_get jb_X12_street rfl (pc' := 128) rfl (jh_at (a := 45) rfl) (by rfl) (by rfl) ?_
                    rw [jU_same, ju_ne (by decide), ju_ne (by decide), ju_ne (by decide), ju_ne (by decide), ju_same]
                    first | (exfalso; omega) | (have ex : x = 1 := (by omega); have e3 : (if x = 1 then y else (25 : Int)) = y := (if_pos ex); rw [show aStreet A x y z = (y, sSt A x y z) from by unfold aStreet; rw [if_neg (by omega), if_neg (by omega), if_neg (by omega), e3]]; exact je_ret jb_X12_street rfl (by rfl) ⟨_, rfl, rfl, J.street (by unfold fS; omega) (by rw [ex]; rfl), (kC.rfl' m).u (by decide) _⟩) | (have ex : x = 0 := (by omega); have e3 : (if x = 1 then y else (25 : Int)) = 25 := (if_neg (by omega)); rw [show aStreet A x y z = (25, sSt A x 25 z) from by unfold aStreet; rw [if_neg (by omega), if_neg (by omega), if_neg (by omega), e3]]; exact je_ret jb_X12_street rfl (by rfl) ⟨_, rfl, rfl, J.street (by unfold fS; omega) (by rw [ex]; rfl), (kC.rfl' m).u (by decide) _⟩)
                · refine je_ps jb_X12_street 2 (pc' := 89) (ls' := [_, _, _, _]) (st' := [_, _]) rfl ?_
                  refine je_putI jb_X12_street rfl (pc' := 92) rfl (j := 2) (a := 45) rfl (by rfl) (by rfl) (by rfl) (by rfl) ?_
                  rw [jU_same, jU_jU]
                  refine je_ps jb_X12_street 2 (pc' := 94) (ls' := [_, _, _, _]) (st' := [_, _]) rfl ?_
                  refine je_get jb_X12_street rfl (pc' := 97) rfl (jh_at (a := 45) rfl) (by rfl) (by rfl) ?_
                  rw [jU_same, ju_ne (by decide), ju_same]
                  refine je_ifeq jb_X12_street rfl (t := 104) rfl (pc' := 100) rfl (by first | omega | exact (hM _ _).1 | exact (hM _ _).2) (by first | omega | exact (hM _ _).1 | exact (hM _ _).2) (fun c97 => ?_) (fun c97 => ?_)
                  · refine je_ps jb_X12_street 1 (pc' := 106) (ls' := [_, _, _, _]) (st' := [_, _]) rfl ?_
                    refine je_putI jb_X12_street rfl (pc' := 109) rfl (j := 3) (a := 45) rfl (by rfl) (by rfl) (by rfl) (by rfl) ?_
                    rw [jU_same, jU_jU]
                    refine je_ps jb_X12_street 2 (pc' := 111) (ls' := [_, _, _, _]) (st' := [_, _]) rfl ?_
                    refine je_putI jb_X12_street rfl (pc' := 114) rfl (j := 4) (a := 45) rfl (by rfl) (by rfl) (by rfl) (by rfl) ?_
                    rw [jU_same, jU_jU]
                    refine je_ps jb_X12_street 2 (pc' := 116) (ls' := [_, _, _, _]) (st' := [_, _]) rfl ?_
                    refine je_putI jb_X12_street rfl (pc' := 119) rfl (j := 5) (a := 45) rfl (by rfl) (by rfl) (by rfl) (by rfl) ?_
                    rw [jU_same, jU_jU]
                    refine je_ps jb_X12_street 2 (pc' := 121) (ls' := [_, _, _, _]) (st' := [_, _]) rfl ?_
                    refine je_putI jb_X12_street rfl (pc' := 124) rfl (j := 8) (a := 45) rfl (by rfl) (by rfl) (by rfl) (by rfl) ?_
                    rw [jU_same, jU_jU]
                    refine je_ps jb_X12_street 1 (pc' := 125) (ls' := [_, _, _, _]) (st' := [_]) rfl ?_
                    refine je_get jb_X12_street rfl (pc' := 128) rfl (jh_at (a := 45) rfl) (by rfl) (by rfl) ?_
                    rw [jU_same, ju_ne (by decide), ju_ne (by decide), ju_ne (by decide), ju_ne (by decide), ju_same]
                    first | (exfalso; omega) | (have ex : x = 1 := (by omega); have e3 : (if x = 1 then y else (25 : Int)) = y := (if_pos ex); rw [show aStreet A x y z = (y, sSt A x y z) from by unfold aStreet; rw [if_neg (by omega), if_neg (by omega), if_neg (by omega), e3]]; exact je_ret jb_X12_street rfl (by rfl) ⟨_, rfl, rfl, J.street (by unfold fS; omega) (by rw [ex]; rfl), (kC.rfl' m).u (by decide) _⟩) | (have ex : x = 0 := (by omega); have e3 : (if x = 1 then y else (25 : Int)) = 25 := (if_neg (by omega)); rw [show aStreet A x y z = (25, sSt A x 25 z) from by unfold aStreet; rw [if_neg (by omega), if_neg (by omega), if_neg (by omega), e3]]; exact je_ret jb_X12_street rfl (by rfl) ⟨_, rfl, rfl, J.street (by unfold fS; omega) (by rw [ex]; rfl), (kC.rfl' m).u (by decide) _⟩)
                  · refine je_ps jb_X12_street 2 (pc' := 106) (ls' := [_, _, _, _]) (st' := [_, _]) rfl ?_
                    refine je_putI jb_X12_street rfl (pc' := 109) rfl (j := 3) (a := 45) rfl (by rfl) (by rfl) (by rfl) (by rfl) ?_
                    rw [jU_same, jU_jU]
                    refine je_ps jb_X12_street 2 (pc' := 111) (ls' := [_, _, _, _]) (st' := [_, _]) rfl ?_
                    refine je_putI jb_X12_street rfl (pc' := 114) rfl (j := 4) (a := 45) rfl (by rfl) (by rfl) (by rfl) (by rfl) ?_
                    rw [jU_same, jU_jU]
                    refine je_ps jb_X12_street 2 (pc' := 116) (ls' := [_, _, _, _]) (st' := [_, _]) rfl ?_
                    refine je_putI jb_X12_street rfl (pc' := 119) rfl (j := 5) (a := 45) rfl (by rfl) (by rfl) (by rfl) (by rfl) ?_
                    rw [jU_same, jU_jU]
                    refine je_ps jb_X12_street 2 (pc' := 121) (ls' := [_, _, _, _]) (st' := [_, _]) rfl ?_
                    refine je_putI jb_X12_street rfl (pc' := 124) rfl (j := 8) (a := 45) rfl (by rfl) (by rfl) (by rfl) (by rfl) ?_
                    rw [jU_same, jU_jU]
                    refine je_ps jb_X12_street 1 (pc' := 125) (ls' := [_, _, _, _]) (st' := [_]) rfl ?_
                    refine je_get jb_X12_street rfl (pc' := 128) rfl (jh_at (a := 45) rfl) (by rfl) (by rfl) ?_
                    rw [jU_same, ju_ne (by decide), ju_ne (by decide), ju_ne (by decide), ju_ne (by decide), ju_same]
                    first | (exfalso; omega) | (have ex : x = 1 := (by omega); have e3 : (if x = 1 then y else (25 : Int)) = y := (if_pos ex); rw [show aStreet A x y z = (y, sSt A x y z) from by unfold aStreet; rw [if_neg (by omega), if_neg (by omega), if_neg (by omega), e3]]; exact je_ret jb_X12_street rfl (by rfl) ⟨_, rfl, rfl, J.street (by unfold fS; omega) (by rw [ex]; rfl), (kC.rfl' m).u (by decide) _⟩) | (have ex : x = 0 := (by omega); have e3 : (if x = 1 then y else (25 : Int)) = 25 := (if_neg (by omega)); rw [show aStreet A x y z = (25, sSt A x 25 z) from by unfold aStreet; rw [if_neg (by omega), if_neg (by omega), if_neg (by omega), e3]]; exact je_ret jb_X12_street rfl (by rfl) ⟨_, rfl, rfl, J.street (by unfold fS; omega) (by rw [ex]; rfl), (kC.rfl' m).u (by decide) _⟩)
            · refine je_ps jb_X12_street 2 (pc' := 57) (ls' := [_, _, _, _]) (st' := [_, _]) rfl ?_
              refine je_cvP' jb_X12_street rfl (pc' := 60) rfl (jh_at (a := 45) rfl) (by rfl) (by first | decide | exact Nat.ble_eq_true_of_le (by omega)) (c_X12_refused (by omega)) (st' := [_]) rfl ?_
              rw [show aStreet A x y z = aRef A (-6) from by unfold aStreet; rw [if_neg (by omega), if_neg (by omega), if_pos (by omega)]]
              exact je_ret jb_X12_street rfl (by rfl) ⟨_, rfl, rfl, J.ref (by omega), (kC.rfl' m).u (by decide) _⟩
          · refine je_ps jb_X12_street 2 (pc' := 46) (ls' := [_, _, _, _]) (st' := [_, _]) rfl ?_
            refine je_icmpgt jb_X12_street rfl (t := 54) rfl (pc' := 49) rfl (by first | omega | exact (hM _ _).1 | exact (hM _ _).2) (by first | omega | exact (hM _ _).1 | exact (hM _ _).2) (by first | omega | exact (hM _ _).1 | exact (hM _ _).2) (by first | omega | exact (hM _ _).1 | exact (hM _ _).2) (fun c46 => ?_) (fun c46 => ?_)
            · refine je_ps jb_X12_street 2 (pc' := 57) (ls' := [_, _, _, _]) (st' := [_, _]) rfl ?_
              refine je_cvP' jb_X12_street rfl (pc' := 60) rfl (jh_at (a := 45) rfl) (by rfl) (by first | decide | exact Nat.ble_eq_true_of_le (by omega)) (c_X12_refused (by omega)) (st' := [_]) rfl ?_
              rw [show aStreet A x y z = aRef A (-6) from by unfold aStreet; rw [if_neg (by omega), if_neg (by omega), if_pos (by omega)]]
              exact je_ret jb_X12_street rfl (by rfl) ⟨_, rfl, rfl, J.ref (by omega), (kC.rfl' m).u (by decide) _⟩
            · refine je_ps jb_X12_street 2 (pc' := 51) (ls' := [_, _, _, _]) (st' := [_, _]) rfl ?_
              refine je_icmple jb_X12_street rfl (t := 61) rfl (pc' := 54) rfl (by first | omega | exact (hM _ _).1 | exact (hM _ _).2) (by first | omega | exact (hM _ _).1 | exact (hM _ _).2) (by first | omega | exact (hM _ _).1 | exact (hM _ _).2) (by first | omega | exact (hM _ _).1 | exact (hM _ _).2) (fun c51 => ?_) (fun c51 => ?_)
              · refine je_ps jb_X12_street 3 (pc' := 64) (ls' := [_, _, _, _]) (st' := [_, _, _]) rfl ?_
                refine je_icmpne jb_X12_street rfl (t := 71) rfl (pc' := 67) rfl (by first | omega | exact (hM _ _).1 | exact (hM _ _).2) (by first | omega | exact (hM _ _).1 | exact (hM _ _).2) (by first | omega | exact (hM _ _).1 | exact (hM _ _).2) (by first | omega | exact (hM _ _).1 | exact (hM _ _).2) (fun c64 => ?_) (fun c64 => ?_)
                · refine je_ps jb_X12_street 1 (pc' := 72) (ls' := [_, _, _, _]) (st' := [_, _]) rfl ?_
                  refine je_putI jb_X12_street rfl (pc' := 75) rfl (j := 1) (a := 45) rfl (by rfl) (by rfl) (by rfl) (by rfl) ?_
                  refine je_ps jb_X12_street 2 (pc' := 77) (ls' := [_, _, _, _]) (st' := [_, _]) rfl ?_
                  refine je_get jb_X12_street rfl (pc' := 80) rfl (jh_at (a := 45) rfl) (by rfl) (by rfl) ?_
                  rw [jU_same, ju_same]
                  refine je_ifeq jb_X12_street rfl (t := 87) rfl (pc' := 83) rfl (by first | omega | exact (hM _ _).1 | exact (hM _ _).2) (by first | omega | exact (hM _ _).1 | exact (hM _ _).2) (fun c80 => ?_) (fun c80 => ?_)
                  · refine je_ps jb_X12_street 1 (pc' := 89) (ls' := [_, _, _, _]) (st' := [_, _]) rfl ?_
                    refine je_putI jb_X12_street rfl (pc' := 92) rfl (j := 2) (a := 45) rfl (by rfl) (by rfl) (by rfl) (by rfl) ?_
                    rw [jU_same, jU_jU]
                    refine je_ps jb_X12_street 2 (pc' := 94) (ls' := [_, _, _, _]) (st' := [_, _]) rfl ?_
                    refine je_get jb_X12_street rfl (pc' := 97) rfl (jh_at (a := 45) rfl) (by rfl) (by rfl) ?_
                    rw [jU_same, ju_ne (by decide), ju_same]
                    refine je_ifeq jb_X12_street rfl (t := 104) rfl (pc' := 100) rfl (by first | omega | exact (hM _ _).1 | exact (hM _ _).2) (by first | omega | exact (hM _ _).1 | exact (hM _ _).2) (fun c97 => ?_) (fun c97 => ?_)
                    · refine je_ps jb_X12_street 1 (pc' := 106) (ls' := [_, _, _, _]) (st' := [_, _]) rfl ?_
                      refine je_putI jb_X12_street rfl (pc' := 109) rfl (j := 3) (a := 45) rfl (by rfl) (by rfl) (by rfl) (by rfl) ?_
                      rw [jU_same, jU_jU]
                      refine je_ps jb_X12_street 2 (pc' := 111) (ls' := [_, _, _, _]) (st' := [_, _]) rfl ?_
                      refine je_putI jb_X12_street rfl (pc' := 114) rfl (j := 4) (a := 45) rfl (by rfl) (by rfl) (by rfl) (by rfl) ?_
                      rw [jU_same, jU_jU]
                      refine je_ps jb_X12_street 2 (pc' := 116) (ls' := [_, _, _, _]) (st' := [_, _]) rfl ?_
                      refine je_putI jb_X12_street rfl (pc' := 119) rfl (j := 5) (a := 45) rfl (by rfl) (by rfl) (by rfl) (by rfl) ?_
                      rw [jU_same, jU_jU]
                      refine je_ps jb_X12_street 2 (pc' := 121) (ls' := [_, _, _, _]) (st' := [_, _]) rfl ?_
                      refine je_putI jb_X12_street rfl (pc' := 124) rfl (j := 8) (a := 45) rfl (by rfl) (by rfl) (by rfl) (by rfl) ?_
                      rw [jU_same, jU_jU]
                      refine je_ps jb_X12_street 1 (pc' := 125) (ls' := [_, _, _, _]) (st' := [_]) rfl ?_
                      refine je_get jb_X12_street rfl (pc' := 128) rfl (jh_at (a := 45) rfl) (by rfl) (by rfl) ?_
                      rw [jU_same, ju_ne (by decide), ju_ne (by decide), ju_ne (by decide), ju_ne (by decide), ju_same]
                      first | (exfalso; omega) | (have ex : x = 1 := (by omega); have e3 : (if x = 1 then y else (25 : Int)) = y := (if_pos ex); rw [show aStreet A x y z = (y, sSt A x y z) from by unfold aStreet; rw [if_neg (by omega), if_neg (by omega), if_neg (by omega), e3]]; exact je_ret jb_X12_street rfl (by rfl) ⟨_, rfl, rfl, J.street (by unfold fS; omega) (by rw [ex]; rfl), (kC.rfl' m).u (by decide) _⟩) | (have ex : x = 0 := (by omega); have e3 : (if x = 1 then y else (25 : Int)) = 25 := (if_neg (by omega)); rw [show aStreet A x y z = (25, sSt A x 25 z) from by unfold aStreet; rw [if_neg (by omega), if_neg (by omega), if_neg (by omega), e3]]; exact je_ret jb_X12_street rfl (by rfl) ⟨_, rfl, rfl, J.street (by unfold fS; omega) (by rw [ex]; rfl), (kC.rfl' m).u (by decide) _⟩)
                    · refine je_ps jb_X12_street 2 (pc' := 106) (ls' := [_, _, _, _]) (st' := [_, _]) rfl ?_
                      refine je_putI jb_X12_street rfl (pc' := 109) rfl (j := 3) (a := 45) rfl (by rfl) (by rfl) (by rfl) (by rfl) ?_
                      rw [jU_same, jU_jU]
                      refine je_ps jb_X12_street 2 (pc' := 111) (ls' := [_, _, _, _]) (st' := [_, _]) rfl ?_
                      refine je_putI jb_X12_street rfl (pc' := 114) rfl (j := 4) (a := 45) rfl (by rfl) (by rfl) (by rfl) (by rfl) ?_
                      rw [jU_same, jU_jU]
                      refine je_ps jb_X12_street 2 (pc' := 116) (ls' := [_, _, _, _]) (st' := [_, _]) rfl ?_
                      refine je_putI jb_X12_street rfl (pc' := 119) rfl (j := 5) (a := 45) rfl (by rfl) (by rfl) (by rfl) (by rfl) ?_
                      rw [jU_same, jU_jU]
                      refine je_ps jb_X12_street 2 (pc' := 121) (ls' := [_, _, _, _]) (st' := [_, _]) rfl ?_
                      refine je_putI jb_X12_street rfl (pc' := 124) rfl (j := 8) (a := 45) rfl (by rfl) (by rfl) (by rfl) (by rfl) ?_
                      rw [jU_same, jU_jU]
                      refine je_ps jb_X12_street 1 (pc' := 125) (ls' := [_, _, _, _]) (st' := [_]) rfl ?_
                      refine je_get jb_X12_street rfl (pc' := 128) rfl (jh_at (a := 45) rfl) (by rfl) (by rfl) ?_
                      rw [jU_same, ju_ne (by decide), ju_ne (by decide), ju_ne (by decide), ju_ne (by decide), ju_same]
                      first | (exfalso; omega) | (have ex : x = 1 := (by omega); have e3 : (if x = 1 then y else (25 : Int)) = y := (if_pos ex); rw [show aStreet A x y z = (y, sSt A x y z) from by unfold aStreet; rw [if_neg (by omega), if_neg (by omega), if_neg (by omega), e3]]; exact je_ret jb_X12_street rfl (by rfl) ⟨_, rfl, rfl, J.street (by unfold fS; omega) (by rw [ex]; rfl), (kC.rfl' m).u (by decide) _⟩) | (have ex : x = 0 := (by omega); have e3 : (if x = 1 then y else (25 : Int)) = 25 := (if_neg (by omega)); rw [show aStreet A x y z = (25, sSt A x 25 z) from by unfold aStreet; rw [if_neg (by omega), if_neg (by omega), if_neg (by omega), e3]]; exact je_ret jb_X12_street rfl (by rfl) ⟨_, rfl, rfl, J.street (by unfold fS; omega) (by rw [ex]; rfl), (kC.rfl' m).u (by decide) _⟩)
                  · refine je_ps jb_X12_street 2 (pc' := 89) (ls' := [_, _, _, _]) (st' := [_, _]) rfl ?_
                    refine je_putI jb_X12_street rfl (pc' := 92) rfl (j := 2) (a := 45) rfl (by rfl) (by rfl) (by rfl) (by rfl) ?_
                    rw [jU_same, jU_jU]
                    refine je_ps jb_X12_street 2 (pc' := 94) (ls' := [_, _, _, _]) (st' := [_, _]) rfl ?_
                    refine je_get jb_X12_street rfl (pc' := 97) rfl (jh_at (a := 45) rfl) (by rfl) (by rfl) ?_
                    rw [jU_same, ju_ne (by decide), ju_same]
                    refine je_ifeq jb_X12_street rfl (t := 104) rfl (pc' := 100) rfl (by first | omega | exact (hM _ _).1 | exact (hM _ _).2) (by first | omega | exact (hM _ _).1 | exact (hM _ _).2) (fun c97 => ?_) (fun c97 => ?_)
                    · refine je_ps jb_X12_street 1 (pc' := 106) (ls' := [_, _, _, _]) (st' := [_, _]) rfl ?_
                      refine je_putI jb_X12_street rfl (pc' := 109) rfl (j := 3) (a := 45) rfl (by rfl) (by rfl) (by rfl) (by rfl) ?_
                      rw [jU_same, jU_jU]
                      refine je_ps jb_X12_street 2 (pc' := 111) (ls' := [_, _, _, _]) (st' := [_, _]) rfl ?_
                      refine je_putI jb_X12_street rfl (pc' := 114) rfl (j := 4) (a := 45) rfl (by rfl) (by rfl) (by rfl) (by rfl) ?_
                      rw [jU_same, jU_jU]
                      refine je_ps jb_X12_street 2 (pc' := 116) (ls' := [_, _, _, _]) (st' := [_, _]) rfl ?_
                      refine je_putI jb_X12_street rfl (pc' := 119) rfl (j := 5) (a := 45) rfl (by rfl) (by rfl) (by rfl) (by rfl) ?_
                      rw [jU_same, jU_jU]
                      refine je_ps jb_X12_street 2 (pc' := 121) (ls' := [_, _, _, _]) (st' := [_, _]) rfl ?_
                      refine je_putI jb_X12_street rfl (pc' := 124) rfl (j := 8) (a := 45) rfl (by rfl) (by rfl) (by rfl) (by rfl) ?_
                      rw [jU_same, jU_jU]
                      refine je_ps jb_X12_street 1 (pc' := 125) (ls' := [_, _, _, _]) (st' := [_]) rfl ?_
                      refine je_get jb_X12_street rfl (pc' := 128) rfl (jh_at (a := 45) rfl) (by rfl) (by rfl) ?_
                      rw [jU_same, ju_ne (by decide), ju_ne (by decide), ju_ne (by decide), ju_ne (by decide), ju_same]
                      first | (exfalso; omega) | (have ex : x = 1 := (by omega); have e3 : (if x = 1 then y else (25 : Int)) = y := (if_pos ex); rw [show aStreet A x y z = (y, sSt A x y z) from by unfold aStreet; rw [if_neg (by omega), if_neg (by omega), if_neg (by omega), e3]]; exact je_ret jb_X12_street rfl (by rfl) ⟨_, rfl, rfl, J.street (by unfold fS; omega) (by rw [ex]; rfl), (kC.rfl' m).u (by decide) _⟩) | (have ex : x = 0 := (by omega); have e3 : (if x = 1 then y else (25 : Int)) = 25 := (if_neg (by omega)); rw [show aStreet A x y z = (25, sSt A x 25 z) from by unfold aStreet; rw [if_neg (by omega), if_neg (by omega), if_neg (by omega), e3]]; exact je_ret jb_X12_street rfl (by rfl) ⟨_, rfl, rfl, J.street (by unfold fS; omega) (by rw [ex]; rfl), (kC.rfl' m).u (by decide) _⟩)
                    · refine je_ps jb_X12_street 2 (pc' := 106) (ls' := [_, _, _, _]) (st' := [_, _]) rfl ?_
                      refine je_putI jb_X12_street rfl (pc' := 109) rfl (j := 3) (a := 45) rfl (by rfl) (by rfl) (by rfl) (by rfl) ?_
                      rw [jU_same, jU_jU]
                      refine je_ps jb_X12_street 2 (pc' := 111) (ls' := [_, _, _, _]) (st' := [_, _]) rfl ?_
                      refine je_putI jb_X12_street rfl (pc' := 114) rfl (j := 4) (a := 45) rfl (by rfl) (by rfl) (by rfl) (by rfl) ?_
                      rw [jU_same, jU_jU]
                      refine je_ps jb_X12_street 2 (pc' := 116) (ls' := [_, _, _, _]) (st' := [_, _]) rfl ?_
                      refine je_putI jb_X12_street rfl (pc' := 119) rfl (j := 5) (a := 45) rfl (by rfl) (by rfl) (by rfl) (by rfl) ?_
                      rw [jU_same, jU_jU]
                      refine je_ps jb_X12_street 2 (pc' := 121) (ls' := [_, _, _, _]) (st' := [_, _]) rfl ?_
                      refine je_putI jb_X12_street rfl (pc' := 124) rfl (j := 8) (a := 45) rfl (by rfl) (by rfl) (by rfl) (by rfl) ?_
                      rw [jU_same, jU_jU]
                      refine je_ps jb_X12_street 1 (pc' := 125) (ls' := [_, _, _, _]) (st' := [_]) rfl ?_
                      refine je_get jb_X12_street rfl (pc' := 128) rfl (jh_at (a := 45) rfl) (by rfl) (by rfl) ?_
                      rw [jU_same, ju_ne (by decide), ju_ne (by decide), ju_ne (by decide), ju_ne (by decide), ju_same]
                      first | (exfalso; omega) | (have ex : x = 1 := (by omega); have e3 : (if x = 1 then y else (25 : Int)) = y := (if_pos ex); rw [show aStreet A x y z = (y, sSt A x y z) from by unfold aStreet; rw [if_neg (by omega), if_neg (by omega), if_neg (by omega), e3]]; exact je_ret jb_X12_street rfl (by rfl) ⟨_, rfl, rfl, J.street (by unfold fS; omega) (by rw [ex]; rfl), (kC.rfl' m).u (by decide) _⟩) | (have ex : x = 0 := (by omega); have e3 : (if x = 1 then y else (25 : Int)) = 25 := (if_neg (by omega)); rw [show aStreet A x y z = (25, sSt A x 25 z) from by unfold aStreet; rw [if_neg (by omega), if_neg (by omega), if_neg (by omega), e3]]; exact je_ret jb_X12_street rfl (by rfl) ⟨_, rfl, rfl, J.street (by unfold fS; omega) (by rw [ex]; rfl), (kC.rfl' m).u (by decide) _⟩)
                · refine je_ps jb_X12_street 2 (pc' := 72) (ls' := [_, _, _, _]) (st' := [_, _]) rfl ?_
                  refine je_putI jb_X12_street rfl (pc' := 75) rfl (j := 1) (a := 45) rfl (by rfl) (by rfl) (by rfl) (by rfl) ?_
                  refine je_ps jb_X12_street 2 (pc' := 77) (ls' := [_, _, _, _]) (st' := [_, _]) rfl ?_
                  refine je_get jb_X12_street rfl (pc' := 80) rfl (jh_at (a := 45) rfl) (by rfl) (by rfl) ?_
                  rw [jU_same, ju_same]
                  refine je_ifeq jb_X12_street rfl (t := 87) rfl (pc' := 83) rfl (by first | omega | exact (hM _ _).1 | exact (hM _ _).2) (by first | omega | exact (hM _ _).1 | exact (hM _ _).2) (fun c80 => ?_) (fun c80 => ?_)
                  · refine je_ps jb_X12_street 1 (pc' := 89) (ls' := [_, _, _, _]) (st' := [_, _]) rfl ?_
                    refine je_putI jb_X12_street rfl (pc' := 92) rfl (j := 2) (a := 45) rfl (by rfl) (by rfl) (by rfl) (by rfl) ?_
                    rw [jU_same, jU_jU]
                    refine je_ps jb_X12_street 2 (pc' := 94) (ls' := [_, _, _, _]) (st' := [_, _]) rfl ?_
                    refine je_get jb_X12_street rfl (pc' := 97) rfl (jh_at (a := 45) rfl) (by rfl) (by rfl) ?_
                    rw [jU_same, ju_ne (by decide), ju_same]
                    refine je_ifeq jb_X12_street rfl (t := 104) rfl (pc' := 100) rfl (by first | omega | exact (hM _ _).1 | exact (hM _ _).2) (by first | omega | exact (hM _ _).1 | exact (hM _ _).2) (fun c97 => ?_) (fun c97 => ?_)
                    · refine je_ps jb_X12_street 1 (pc' := 106) (ls' := [_, _, _, _]) (st' := [_, _]) rfl ?_
                      refine je_putI jb_X12_street rfl (pc' := 109) rfl (j := 3) (a := 45) rfl (by rfl) (by rfl) (by rfl) (by rfl) ?_
                      rw [jU_same, jU_jU]
                      refine je_ps jb_X12_street 2 (pc' := 111) (ls' := [_, _, _, _]) (st' := [_, _]) rfl ?_
                      refine je_putI jb_X12_street rfl (pc' := 114) rfl (j := 4) (a := 45) rfl (by rfl) (by rfl) (by rfl) (by rfl) ?_
                      rw [jU_same, jU_jU]
                      refine je_ps jb_X12_street 2 (pc' := 116) (ls' := [_, _, _, _]) (st' := [_, _]) rfl ?_
                      refine je_putI jb_X12_street rfl (pc' := 119) rfl (j := 5) (a := 45) rfl (by rfl) (by rfl) (by rfl) (by rfl) ?_
                      rw [jU_same, jU_jU]
                      refine je_ps jb_X12_street 2 (pc' := 121) (ls' := [_, _, _, _]) (st' := [_, _]) rfl ?_
                      refine je_putI jb_X12_street rfl (pc' := 124) rfl (j := 8) (a := 45) rfl (by rfl) (by rfl) (by rfl) (by rfl) ?_
                      rw [jU_same, jU_jU]
                      refine je_ps jb_X12_street 1 (pc' := 125) (ls' := [_, _, _, _]) (st' := [_]) rfl ?_
                      refine je_get jb_X12_street rfl (pc' := 128) rfl (jh_at (a := 45) rfl) (by rfl) (by rfl) ?_
                      rw [jU_same, ju_ne (by decide), ju_ne (by decide), ju_ne (by decide), ju_ne (by decide), ju_same]
                      first | (exfalso; omega) | (have ex : x = 1 := (by omega); have e3 : (if x = 1 then y else (25 : Int)) = y := (if_pos ex); rw [show aStreet A x y z = (y, sSt A x y z) from by unfold aStreet; rw [if_neg (by omega), if_neg (by omega), if_neg (by omega), e3]]; exact je_ret jb_X12_street rfl (by rfl) ⟨_, rfl, rfl, J.street (by unfold fS; omega) (by rw [ex]; rfl), (kC.rfl' m).u (by decide) _⟩) | (have ex : x = 0 := (by omega); have e3 : (if x = 1 then y else (25 : Int)) = 25 := (if_neg (by omega)); rw [show aStreet A x y z = (25, sSt A x 25 z) from by unfold aStreet; rw [if_neg (by omega), if_neg (by omega), if_neg (by omega), e3]]; exact je_ret jb_X12_street rfl (by rfl) ⟨_, rfl, rfl, J.street (by unfold fS; omega) (by rw [ex]; rfl), (kC.rfl' m).u (by decide) _⟩)
                    · refine je_ps jb_X12_street 2 (pc' := 106) (ls' := [_, _, _, _]) (st' := [_, _]) rfl ?_
                      refine je_putI jb_X12_street rfl (pc' := 109) rfl (j := 3) (a := 45) rfl (by rfl) (by rfl) (by rfl) (by rfl) ?_
                      rw [jU_same, jU_jU]
                      refine je_ps jb_X12_street 2 (pc' := 111) (ls' := [_, _, _, _]) (st' := [_, _]) rfl ?_
                      refine je_putI jb_X12_street rfl (pc' := 114) rfl (j := 4) (a := 45) rfl (by rfl) (by rfl) (by rfl) (by rfl) ?_
                      rw [jU_same, jU_jU]
                      refine je_ps jb_X12_street 2 (pc' := 116) (ls' := [_, _, _, _]) (st' := [_, _]) rfl ?_
                      refine je_putI jb_X12_street rfl (pc' := 119) rfl (j := 5) (a := 45) rfl (by rfl) (by rfl) (by rfl) (by rfl) ?_
                      rw [jU_same, jU_jU]
                      refine je_ps jb_X12_street 2 (pc' := 121) (ls' := [_, _, _, _]) (st' := [_, _]) rfl ?_
                      refine je_putI jb_X12_street rfl (pc' := 124) rfl (j := 8) (a := 45) rfl (by rfl) (by rfl) (by rfl) (by rfl) ?_
                      rw [jU_same, jU_jU]
                      refine je_ps jb_X12_street 1 (pc' := 125) (ls' := [_, _, _, _]) (st' := [_]) rfl ?_
                      refine je_get jb_X12_street rfl (pc' := 128) rfl (jh_at (a := 45) rfl) (by rfl) (by rfl) ?_
                      rw [jU_same, ju_ne (by decide), ju_ne (by decide), ju_ne (by decide), ju_ne (by decide), ju_same]
                      first | (exfalso; omega) | (have ex : x = 1 := (by omega); have e3 : (if x = 1 then y else (25 : Int)) = y := (if_pos ex); rw [show aStreet A x y z = (y, sSt A x y z) from by unfold aStreet; rw [if_neg (by omega), if_neg (by omega), if_neg (by omega), e3]]; exact je_ret jb_X12_street rfl (by rfl) ⟨_, rfl, rfl, J.street (by unfold fS; omega) (by rw [ex]; rfl), (kC.rfl' m).u (by decide) _⟩) | (have ex : x = 0 := (by omega); have e3 : (if x = 1 then y else (25 : Int)) = 25 := (if_neg (by omega)); rw [show aStreet A x y z = (25, sSt A x 25 z) from by unfold aStreet; rw [if_neg (by omega), if_neg (by omega), if_neg (by omega), e3]]; exact je_ret jb_X12_street rfl (by rfl) ⟨_, rfl, rfl, J.street (by unfold fS; omega) (by rw [ex]; rfl), (kC.rfl' m).u (by decide) _⟩)
                  · refine je_ps jb_X12_street 2 (pc' := 89) (ls' := [_, _, _, _]) (st' := [_, _]) rfl ?_
                    refine je_putI jb_X12_street rfl (pc' := 92) rfl (j := 2) (a := 45) rfl (by rfl) (by rfl) (by rfl) (by rfl) ?_
                    rw [jU_same, jU_jU]
                    refine je_ps jb_X12_street 2 (pc' := 94) (ls' := [_, _, _, _]) (st' := [_, _]) rfl ?_
                    refine je_get jb_X12_street rfl (pc' := 97) rfl (jh_at (a := 45) rfl) (by rfl) (by rfl) ?_
                    rw [jU_same, ju_ne (by decide), ju_same]
                    refine je_ifeq jb_X12_street rfl (t := 104) rfl (pc' := 100) rfl (by first | omega | exact (hM _ _).1 | exact (hM _ _).2) (by first | omega | exact (hM _ _).1 | exact (hM _ _).2) (fun c97 => ?_) (fun c97 => ?_)
                    · refine je_ps jb_X12_street 1 (pc' := 106) (ls' := [_, _, _, _]) (st' := [_, _]) rfl ?_
                      refine je_putI jb_X12_street rfl (pc' := 109) rfl (j := 3) (a := 45) rfl (by rfl) (by rfl) (by rfl) (by rfl) ?_
                      rw [jU_same, jU_jU]
                      refine je_ps jb_X12_street 2 (pc' := 111) (ls' := [_, _, _, _]) (st' := [_, _]) rfl ?_
                      refine je_putI jb_X12_street rfl (pc' := 114) rfl (j := 4) (a := 45) rfl (by rfl) (by rfl) (by rfl) (by rfl) ?_
                      rw [jU_same, jU_jU]
                      refine je_ps jb_X12_street 2 (pc' := 116) (ls' := [_, _, _, _]) (st' := [_, _]) rfl ?_
                      refine je_putI jb_X12_street rfl (pc' := 119) rfl (j := 5) (a := 45) rfl (by rfl) (by rfl) (by rfl) (by rfl) ?_
                      rw [jU_same, jU_jU]
                      refine je_ps jb_X12_street 2 (pc' := 121) (ls' := [_, _, _, _]) (st' := [_, _]) rfl ?_
                      refine je_putI jb_X12_street rfl (pc' := 124) rfl (j := 8) (a := 45) rfl (by rfl) (by rfl) (by rfl) (by rfl) ?_
                      rw [jU_same, jU_jU]
                      refine je_ps jb_X12_street 1 (pc' := 125) (ls' := [_, _, _, _]) (st' := [_]) rfl ?_
                      refine je_get jb_X12_street rfl (pc' := 128) rfl (jh_at (a := 45) rfl) (by rfl) (by rfl) ?_
                      rw [jU_same, ju_ne (by decide), ju_ne (by decide), ju_ne (by decide), ju_ne (by decide), ju_same]
                      first | (exfalso; omega) | (have ex : x = 1 := (by omega); have e3 : (if x = 1 then y else (25 : Int)) = y := (if_pos ex); rw [show aStreet A x y z = (y, sSt A x y z) from by unfold aStreet; rw [if_neg (by omega), if_neg (by omega), if_neg (by omega), e3]]; exact je_ret jb_X12_street rfl (by rfl) ⟨_, rfl, rfl, J.street (by unfold fS; omega) (by rw [ex]; rfl), (kC.rfl' m).u (by decide) _⟩) | (have ex : x = 0 := (by omega); have e3 : (if x = 1 then y else (25 : Int)) = 25 := (if_neg (by omega)); rw [show aStreet A x y z = (25, sSt A x 25 z) from by unfold aStreet; rw [if_neg (by omega), if_neg (by omega), if_neg (by omega), e3]]; exact je_ret jb_X12_street rfl (by rfl) ⟨_, rfl, rfl, J.street (by unfold fS; omega) (by rw [ex]; rfl), (kC.rfl' m).u (by decide) _⟩)
                    · refine je_ps jb_X12_street 2 (pc' := 106) (ls' := [_, _, _, _]) (st' := [_, _]) rfl ?_
                      refine je_putI jb_X12_street rfl (pc' := 109) rfl (j := 3) (a := 45) rfl (by rfl) (by rfl) (by rfl) (by rfl) ?_
                      rw [jU_same, jU_jU]
                      refine je_ps jb_X12_street 2 (pc' := 111) (ls' := [_, _, _, _]) (st' := [_, _]) rfl ?_
                      refine je_putI jb_X12_street rfl (pc' := 114) rfl (j := 4) (a := 45) rfl (by rfl) (by rfl) (by rfl) (by rfl) ?_
                      rw [jU_same, jU_jU]
                      refine je_ps jb_X12_street 2 (pc' := 116) (ls' := [_, _, _, _]) (st' := [_, _]) rfl ?_
                      refine je_putI jb_X12_street rfl (pc' := 119) rfl (j := 5) (a := 45) rfl (by rfl) (by rfl) (by rfl) (by rfl) ?_
                      rw [jU_same, jU_jU]
                      refine je_ps jb_X12_street 2 (pc' := 121) (ls' := [_, _, _, _]) (st' := [_, _]) rfl ?_
                      refine je_putI jb_X12_street rfl (pc' := 124) rfl (j := 8) (a := 45) rfl (by rfl) (by rfl) (by rfl) (by rfl) ?_
                      rw [jU_same, jU_jU]
                      refine je_ps jb_X12_street 1 (pc' := 125) (ls' := [_, _, _, _]) (st' := [_]) rfl ?_
                      refine je_get jb_X12_street rfl (pc' := 128) rfl (jh_at (a := 45) rfl) (by rfl) (by rfl) ?_
                      rw [jU_same, ju_ne (by decide), ju_ne (by decide), ju_ne (by decide), ju_ne (by decide), ju_same]
                      first | (exfalso; omega) | (have ex : x = 1 := (by omega); have e3 : (if x = 1 then y else (25 : Int)) = y := (if_pos ex); rw [show aStreet A x y z = (y, sSt A x y z) from by unfold aStreet; rw [if_neg (by omega), if_neg (by omega), if_neg (by omega), e3]]; exact je_ret jb_X12_street rfl (by rfl) ⟨_, rfl, rfl, J.street (by unfold fS; omega) (by rw [ex]; rfl), (kC.rfl' m).u (by decide) _⟩) | (have ex : x = 0 := (by omega); have e3 : (if x = 1 then y else (25 : Int)) = 25 := (if_neg (by omega)); rw [show aStreet A x y z = (25, sSt A x 25 z) from by unfold aStreet; rw [if_neg (by omega), if_neg (by omega), if_neg (by omega), e3]]; exact je_ret jb_X12_street rfl (by rfl) ⟨_, rfl, rfl, J.street (by unfold fS; omega) (by rw [ex]; rfl), (kC.rfl' m).u (by decide) _⟩)
              · refine je_ps jb_X12_street 2 (pc' := 57) (ls' := [_, _, _, _]) (st' := [_, _]) rfl ?_
                refine je_cvP' jb_X12_street rfl (pc' := 60) rfl (jh_at (a := 45) rfl) (by rfl) (by first | decide | exact Nat.ble_eq_true_of_le (by omega)) (c_X12_refused (by omega)) (st' := [_]) rfl ?_
                rw [show aStreet A x y z = aRef A (-6) from by unfold aStreet; rw [if_neg (by omega), if_neg (by omega), if_pos (by omega)]]
                exact je_ret jb_X12_street rfl (by rfl) ⟨_, rfl, rfl, J.ref (by omega), (kC.rfl' m).u (by decide) _⟩
        · refine je_ps jb_X12_street 2 (pc' := 34) (ls' := [_, _, _, _]) (st' := [_, _]) rfl ?_
          refine je_cvP' jb_X12_street rfl (pc' := 37) rfl (jh_at (a := 45) rfl) (by rfl) (by first | decide | exact Nat.ble_eq_true_of_le (by omega)) (c_X12_refused (by omega)) (st' := [_]) rfl ?_
          rw [show aStreet A x y z = aRef A (-4) from by unfold aStreet; rw [if_neg (by omega), if_pos (by omega)]]
          exact je_ret jb_X12_street rfl (by rfl) ⟨_, rfl, rfl, J.ref (by omega), (kC.rfl' m).u (by decide) _⟩
  · refine je_ps jb_X12_street 2 (pc' := 12) (ls' := [_, _, _, _]) (st' := [_, _]) rfl ?_
    refine je_cvP' jb_X12_street rfl (pc' := 15) rfl (jh_at (a := 45) rfl) (by rfl) (by first | decide | exact Nat.ble_eq_true_of_le (by omega)) (c_X12_refused (by omega)) (st' := [_]) rfl ?_
    rw [show aStreet A x y z = aRef A (-2) from by unfold aStreet; rw [if_pos (by have := of_decide_eq_false c6; omega)]]
    exact je_ret jb_X12_street rfl (by rfl) ⟨_, rfl, rfl, J.ref (by omega), (kC.rfl' m).u (by decide) _⟩
end C69
