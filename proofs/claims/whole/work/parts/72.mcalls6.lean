/-! CALLS of the other side: letters, words, what helpers do -/
section C72
variable {sc : Nat × (Nat → Int32)} {m : Nat → Int → Int} {r : Nat → Nat → Value} {T : jx_H} {σ : jx_H}
theorem iG.qs {A : aT} (J : iG A m) {m' : Nat → Int → Int} {f : Int → Int} {z : Int} (hb : ∀ b : Nat, b ≠ 45 → b ≠ 55 → m' b = m b) (hj : ∀ j : Int, j ≠ 22 → m' 45 j = m 45 j) (hz : m' 45 22 = z) (hf : ∀ p : Int, 0 ≤ p → p < z → m' 55 p = f p) : iG (sQ A (f, z)) m' := by
  obtain ⟨j1, j2, j3, j4, j5, j6, j7, j8, j9, j10⟩ := J
  refine ⟨⟨?_, j1.2⟩, ?_, ?_, ?_, ?_, ⟨hz, hf⟩, ?_, ?_, ?_, fun h => ?_⟩
  · rw [hj 1 (by decide), hj 2 (by decide), hj 3 (by decide), hj 4 (by decide)]; exact j1.1
  · rw [hj 5 (by decide)]; exact j2
  · intro i hi
    have g := j3 i hi
    unfold gR at *; rw [hb 47 (by decide) (by decide), hb 48 (by decide) (by decide)]; exact g
  · rw [hj 8 (by decide)]; exact j4
  · rw [hb 49 (by decide) (by decide), hb 50 (by decide) (by decide)]; exact j5
  · rw [hb 56 (by decide) (by decide), hb 57 (by decide) (by decide)]; exact j7
  · rw [hb 46 (by decide) (by decide)]; exact j8
  · rw [hj 25 (by decide)]; exact j9
  · have k := j10 h
    unfold gK at *
    rw [hj 26 (by decide), hj 27 (by decide), hj 28 (by decide), hj 29 (by decide), hj 32 (by decide), hb 58 (by decide) (by decide), hb 59 (by decide) (by decide), hb 60 (by decide) (by decide), hb 61 (by decide) (by decide)]
    exact k
theorem iG.gq {A : aT} (J : iG A m) : gQs m (aQ A) := J.2.2.2.2.2.1
theorem aOk.qf {A : aT} (O : aOk A) : ∀ p, 0 ≤ (aQ A).1 p ∧ (aQ A).1 p ≤ 255 := O.2.2.1
theorem iG.q0 {A : aT} (J : iG A m) : iG (sQ A ((aQ A).1, 0)) (jU m 45 (ju (m 45) 22 0)) := J.qs (fun b h1 h2 => jU_ne h1) (fun j hj => by rw [jU_same, ju_ne hj]) (by rw [jU_same, ju_same]) (fun p p0 p1 => by omega)
theorem gl_letter {A : aT} (O : aOk A) (J : iG A m) {x : Int} (hq : 0 ≤ (aQ A).2 ∧ (aQ A).2 ≤ 72) (hx : -2147483648 ≤ x ∧ x ≤ 2147483647) : jq sc 4 jm_X12_letter [.ref 45, .int (jI x)] (jh m r T) (gQ (aLetter A x) m r T) := by
  have c6 := O.c6
  have fs := O.fs
  have jc := J.c
  have e22 := J.gq.1
  refine je_in jb_X12_letter rfl (ls := [_, _]) rfl ?_
  refine je_ps jb_X12_letter 1 (pc' := 1) (ls' := [_, _]) (st' := [_]) rfl ?_
  refine je_ifge jb_X12_letter rfl (t := 11) rfl (pc' := 4) rfl (by first | omega | exact (hM _ _).1 | exact (hM _ _).2) (by first | omega | exact (hM _ _).1 | exact (hM _ _).2) (fun c1 => ?_) (fun c1 => ?_)
  · refine je_ps jb_X12_letter 2 (pc' := 15) (ls' := [_, _]) (st' := [_, _]) rfl ?_
    refine je_icmpgt jb_X12_letter rfl (t := 27) rfl (pc' := 18) rfl (by first | omega | exact (hM _ _).1 | exact (hM _ _).2) (by first | omega | exact (hM _ _).1 | exact (hM _ _).2) (by first | omega | exact (hM _ _).1 | exact (hM _ _).2) (by first | omega | exact (hM _ _).1 | exact (hM _ _).2) (fun c15 => ?_) (fun c15 => ?_)
    · refine je_ps jb_X12_letter 2 (pc' := 30) (ls' := [_, _]) (st' := [_, _]) rfl ?_
      refine je_cvP' jb_X12_letter rfl (pc' := 33) rfl (jh_at (a := 45) rfl) (by rfl) (by first | decide | exact Nat.ble_eq_true_of_le (by omega)) (c_X12_refused (by omega)) (st' := [_]) rfl ?_
      first | (rw [show aLetter A x = aRef A (-6) from by unfold aLetter; rw [if_neg (by omega), if_pos (by omega)]]; exact je_ret jb_X12_letter rfl (by rfl) ⟨_, rfl, rfl, J.ref (by omega), (kC.rfl' m).u (by decide) _⟩) | (rw [show aLetter A x = aRef A (-6) from by unfold aLetter; rw [if_neg (by omega), if_neg (by omega), if_neg (by omega)]]; exact je_ret jb_X12_letter rfl (by rfl) ⟨_, rfl, rfl, J.ref (by omega), (kC.rfl' m).u (by decide) _⟩)
    · refine je_ps jb_X12_letter 1 (pc' := 19) (ls' := [_, _]) (st' := [_]) rfl ?_
      refine je_get jb_X12_letter rfl (pc' := 22) rfl (jh_at (a := 45) rfl) (by rfl) (by rfl) ?_
      refine je_ps jb_X12_letter 1 (pc' := 24) (ls' := [_, _]) (st' := [_, _]) rfl ?_
      refine je_icmpne jb_X12_letter rfl (t := 34) rfl (pc' := 27) rfl (by first | omega | exact (hM _ _).1 | exact (hM _ _).2) (by first | omega | exact (hM _ _).1 | exact (hM _ _).2) (by first | omega | exact (hM _ _).1 | exact (hM _ _).2) (by first | omega | exact (hM _ _).1 | exact (hM _ _).2) (fun c24 => ?_) (fun c24 => ?_)
      · refine je_ps jb_X12_letter 1 (pc' := 35) (ls' := [_, _]) (st' := [_]) rfl ?_
        refine je_get jb_X12_letter rfl (pc' := 38) rfl (jh_at (a := 45) rfl) (by rfl) (by rfl) ?_
        refine je_ps jb_X12_letter 1 (pc' := 39) (ls' := [_, _]) (st' := [_, _]) rfl ?_
        refine je_get jb_X12_letter rfl (pc' := 42) rfl (jh_at (a := 45) rfl) (by rfl) (by rfl) ?_
        refine je_ps jb_X12_letter 1 (pc' := 43) (ls' := [_, _]) (st' := [_, _, _]) rfl ?_
        refine je_iastI jb_X12_letter rfl (pc' := 44) rfl (n := 72) (a := 55) rfl (fun _ => rfl) (by first | omega | exact (hM _ _).1 | exact (hM _ _).2) (by first | omega | exact (hM _ _).1 | exact (hM _ _).2) (by first | omega | exact (hM _ _).1 | exact (hM _ _).2) ?_
        refine je_ps jb_X12_letter 2 (pc' := 46) (ls' := [_, _]) (st' := [_, _]) rfl ?_
        refine je_get jb_X12_letter rfl (pc' := 49) rfl (jh_at (a := 45) rfl) (by rfl) (by rfl) ?_
        rw [jU_ne (b := 45) (a := 55) (by decide)]
        refine je_ps jb_X12_letter 1 (pc' := 50) (ls' := [_, _]) (st' := [_, _, _]) rfl ?_
        refine je_iadd jb_X12_letter rfl (pc' := 51) rfl ?_
        refine je_putI jb_X12_letter rfl (pc' := 54) rfl (j := 22) (a := 45) rfl (by rfl) (by rfl) (by rfl) (by rfl) ?_
        refine je_ps jb_X12_letter 1 (pc' := 55) (ls' := [_, _]) (st' := [_]) rfl ?_
        refine je_get jb_X12_letter rfl (pc' := 58) rfl (jh_at (a := 45) rfl) (by rfl) (by rfl) ?_
        rw [jU_same, ju_same]
        rw [show aLetter A x = ((aQ A).2 + 1, sQ A (ju (aQ A).1 (aQ A).2 x, (aQ A).2 + 1)) from by unfold aLetter; rw [if_neg (by omega), if_neg (by omega), if_pos (by omega)]]
        exact je_ret jb_X12_letter rfl (by rfl) ⟨_, by rw [e22], rfl, J.qs (fun b h1 h2 => by rw [jU_ne h1, jU_ne h2]) (fun j hj => by rw [jU_same, ju_ne hj, jU_ne (by decide)]) (by rw [jU_same, ju_same, e22]) (fun p p0 p1 => by rw [jU_ne (by decide), jU_same, e22]; unfold ju; by_cases c : p = (aQ A).2; (rw [if_pos c, if_pos c]); (rw [if_neg c, if_neg c]; exact J.gq.2 p p0 (by omega))), ((kC.rfl' m).u (by decide) _).u (by decide) _⟩
      · refine je_ps jb_X12_letter 2 (pc' := 30) (ls' := [_, _]) (st' := [_, _]) rfl ?_
        refine je_cvP' jb_X12_letter rfl (pc' := 33) rfl (jh_at (a := 45) rfl) (by rfl) (by first | decide | exact Nat.ble_eq_true_of_le (by omega)) (c_X12_refused (by omega)) (st' := [_]) rfl ?_
        first | (rw [show aLetter A x = aRef A (-6) from by unfold aLetter; rw [if_neg (by omega), if_pos (by omega)]]; exact je_ret jb_X12_letter rfl (by rfl) ⟨_, rfl, rfl, J.ref (by omega), (kC.rfl' m).u (by decide) _⟩) | (rw [show aLetter A x = aRef A (-6) from by unfold aLetter; rw [if_neg (by omega), if_neg (by omega), if_neg (by omega)]]; exact je_ret jb_X12_letter rfl (by rfl) ⟨_, rfl, rfl, J.ref (by omega), (kC.rfl' m).u (by decide) _⟩)
  · refine je_ps jb_X12_letter 2 (pc' := 7) (ls' := [_, _]) (st' := [_, _]) rfl ?_
    refine je_cvP' jb_X12_letter rfl (pc' := 10) rfl (jh_at (a := 45) rfl) (by rfl) (by first | decide | exact Nat.ble_eq_true_of_le (by omega)) (c_X12_refused (by omega)) (st' := [_]) rfl ?_
    rw [show aLetter A x = aRef A (-4) from by unfold aLetter; rw [if_pos (by omega)]]
    exact je_ret jb_X12_letter rfl (by rfl) ⟨_, rfl, rfl, J.ref (by omega), (kC.rfl' m).u (by decide) _⟩
theorem aTold_n {A : aT} {c : Int} (hc : 0 ≤ c) (h : tAns (aS A) (aN A) (aK A) (aQ A) 0 < 0) : aTold A = A ∧ tAns (aS A) (aN A) (aK A) (aQ A) c = tAns (aS A) (aN A) (aK A) (aQ A) 0 := by
  unfold tAns aTold at *
  by_cases c1 : 0 ≤ tStr (aQ A)
  · rw [if_pos c1, if_pos c1, if_pos c1]
    exact ⟨rfl, rfl⟩
  · by_cases c2 : tF (aS A) (aN A) (aK A) (aQ A) < (aQ A).2.toNat
    · rw [if_neg c1, if_neg c1, if_neg c1, if_pos c2, if_pos c2, if_pos c2]
      exact ⟨rfl, rfl⟩
    · rw [if_neg c1, if_neg c2] at h
      omega
theorem aTold_t {A : aT} {c : Int} (h1 : ¬ 0 ≤ tStr (aQ A)) (h2 : ¬ tF (aS A) (aN A) (aK A) (aQ A) < (aQ A).2.toNat) : aTold A = sAdd A (tS (aS A) (aN A) (aK A) (aQ A) (aQ A).2.toNat) ∧ tAns (aS A) (aN A) (aK A) (aQ A) c = c := by
  unfold tAns aTold
  rw [if_neg h1, if_neg h1, if_neg h2, if_neg h2]
  exact ⟨rfl, rfl⟩
theorem tAns_i {s n k : Int} {q : wT} (hq : 0 ≤ q.2 ∧ q.2 ≤ 72) : -2147483648 ≤ tAns s n k q 0 ∧ tAns s n k q 0 ≤ 2147483647 := by
  have := tStr_i q hq.2
  unfold tAns
  split
  · omega
  · split <;> omega
theorem gR.u43 {w e : Int} {L : Int → Int} (g : gR m w L e) (f : Int → Int) : gR (jU m 45 f) w L e := by
  unfold gR at *
  rw [jU_ne (by decide), jU_ne (by decide)]
  exact g
theorem gl_word {A : aT} (O : aOk A) (J : iG A m) (hq : 0 ≤ (aQ A).2 ∧ (aQ A).2 ≤ 72)  : jq sc 8 jm_X12_word [.ref 45] (jh m r T) (gQ (aWord A) m r T) := by
  have c6 := O.c6
  have fs := O.fs
  have jc := J.c
  refine je_in jb_X12_word rfl (ls := [_, _]) rfl ?_
  refine je_ps jb_X12_word 1 (pc' := 1) (ls' := [_, _]) (st' := [_]) rfl ?_
  refine je_get jb_X12_word rfl (pc' := 4) rfl (jh_at (a := 45) rfl) (by rfl) (by rfl) ?_
  refine je_ps jb_X12_word 1 (pc' := 6) (ls' := [_, _]) (st' := [_, _]) rfl ?_
  refine je_icmpne jb_X12_word rfl (t := 16) rfl (pc' := 9) rfl (by first | omega | exact (hM _ _).1 | exact (hM _ _).2) (by first | omega | exact (hM _ _).1 | exact (hM _ _).2) (by first | omega | exact (hM _ _).1 | exact (hM _ _).2) (by first | omega | exact (hM _ _).1 | exact (hM _ _).2) (fun c6 => ?_) (fun c6 => ?_)
  · refine je_ps jb_X12_word 1 (pc' := 17) (ls' := [_, _]) (st' := [_]) rfl ?_
    refine je_cv jb_X12_word rfl (pc' := 20) rfl (jh_at (a := 45) rfl) (by rfl) (by first | decide | exact Nat.ble_eq_true_of_le (by omega)) (k_gfault J.st J.gq hq O.qf) ?_
    rintro _ _ ⟨m1, rfl, rfl, h0, h1⟩
    show je _ _ _ _ _ [_] _ _
    have ea : ∀ L e, aC A < 6 → iG A (gW m 6 L e) := fun L e hc => J.rows 6 L e (nW O.c6 (by omega))
    have J1 : iG A m1 := by rcases h0 with h0 | ⟨L, e, h0⟩; (rw [h0]; exact J); (rw [h0]; exact ea L e (by omega))
    have K1 : kC m m1 := by rcases h0 with h0 | ⟨L, e, h0⟩; (rw [h0]; exact kC.rfl' m); (rw [h0]; exact (kC.rfl' m).w 6 L e)
    have tb : -2147483648 ≤ tAns (aS A) (aN A) (aK A) (aQ A) 0 ∧ tAns (aS A) (aN A) (aK A) (aQ A) 0 ≤ 2147483647 := tAns_i hq
    refine je_ps jb_X12_word 3 (pc' := 23) (ls' := [_, _]) (st' := [_, _]) rfl ?_
    refine je_putI jb_X12_word rfl (pc' := 26) rfl (j := 22) (a := 45) rfl (by rfl) (by rfl) (by rfl) (by rfl) ?_
    refine je_ps jb_X12_word 1 (pc' := 27) (ls' := [_, _]) (st' := [_]) rfl ?_
    refine je_ifge jb_X12_word rfl (t := 34) rfl (pc' := 30) rfl (by first | omega | exact (hM _ _).1 | exact (hM _ _).2) (by first | omega | exact (hM _ _).1 | exact (hM _ _).2) (fun c27 => ?_) (fun c27 => ?_)
    · obtain ⟨t1, t2, t3, t4⟩ := h1 (by omega)
      subst t4
      obtain ⟨t5, t6⟩ := aTold_t (c := (aC A : Int)) (by omega) t3
      refine je_ps jb_X12_word 2 (pc' := 37) (ls' := [_, _]) (st' := [_, _]) rfl ?_
      refine je_cvP' jb_X12_word rfl (pc' := 40) rfl (jh_at (a := 45) rfl) (by rfl) (by first | decide | exact Nat.ble_eq_true_of_le (by omega)) (k_gcomes (c := (aC A : Int)) (L := (tS (aS A) (aN A) (aK A) (aQ A) (aQ A).2.toNat).1) (e := (tS (aS A) (aN A) (aK A) (aQ A) (aQ A).2.toNat).2) (gR.u43 (gR.w (by omega)) _) (by rw [jU_same, ju_ne (by decide)]; exact J1.c) (by omega) (by omega) (by omega)) (st' := [_]) rfl ?_
      first | (obtain ⟨t5, t6⟩ := aTold_n (c := (aC A : Int)) (by omega) (show tAns (aS A) (aN A) (aK A) (aQ A) 0 < 0 by omega); rw [show aWord A = (tAns (aS A) (aN A) (aK A) (aQ A) (aC A : Int), sQ (aTold A) ((aQ A).1, 0)) from if_pos (by omega), t5, t6]; exact je_ret jb_X12_word rfl (by rfl) ⟨_, rfl, rfl, J1.q0, K1.u (by decide) _⟩) | (rw [show aWord A = (tAns (aS A) (aN A) (aK A) (aQ A) (aC A : Int), sQ (aTold A) ((aQ A).1, 0)) from if_pos (by omega), t5, t6]; exact je_ret jb_X12_word rfl (by rfl) ⟨_, rfl, rfl, (J1.q0).add (A := sQ A ((aQ A).1, 0)) (show aC A < 6 by omega) (tS (aS A) (aN A) (aK A) (aQ A) (aQ A).2.toNat), ((K1.u (by decide) _).w _ _ _).u (by decide) _⟩)
    · refine je_ps jb_X12_word 2 (pc' := 40) (ls' := [_, _]) (st' := [_]) rfl ?_
      first | (obtain ⟨t5, t6⟩ := aTold_n (c := (aC A : Int)) (by omega) (show tAns (aS A) (aN A) (aK A) (aQ A) 0 < 0 by omega); rw [show aWord A = (tAns (aS A) (aN A) (aK A) (aQ A) (aC A : Int), sQ (aTold A) ((aQ A).1, 0)) from if_pos (by omega), t5, t6]; exact je_ret jb_X12_word rfl (by rfl) ⟨_, rfl, rfl, J1.q0, K1.u (by decide) _⟩) | (rw [show aWord A = (tAns (aS A) (aN A) (aK A) (aQ A) (aC A : Int), sQ (aTold A) ((aQ A).1, 0)) from if_pos (by omega), t5, t6]; exact je_ret jb_X12_word rfl (by rfl) ⟨_, rfl, rfl, (J1.q0).add (A := sQ A ((aQ A).1, 0)) (show aC A < 6 by omega) (tS (aS A) (aN A) (aK A) (aQ A) (aQ A).2.toNat), ((K1.u (by decide) _).w _ _ _).u (by decide) _⟩)
  · refine je_ps jb_X12_word 2 (pc' := 12) (ls' := [_, _]) (st' := [_, _]) rfl ?_
    refine je_cvP' jb_X12_word rfl (pc' := 15) rfl (jh_at (a := 45) rfl) (by rfl) (by first | decide | exact Nat.ble_eq_true_of_le (by omega)) (c_X12_refused (by omega)) (st' := [_]) rfl ?_
    rw [show aWord A = aRef A (-6) from by unfold aWord; rw [if_neg (by omega)]]
    exact je_ret jb_X12_word rfl (by rfl) ⟨_, rfl, rfl, J.ref (by omega), (kC.rfl' m).u (by decide) _⟩
theorem k_gisHelped {v w s n k e f : Int} {L : Int → Int} (g : gWk m w s n k L e) (hv : 0 ≤ v ∧ v ≤ 5) (hf : 0 ≤ f ∧ f ≤ 9) : jq sc 6 jm_X12_isHelped [.ref 45, .int (jI w), .int (jI v), .int (jI f)] (jh m r T) (hQ s n k w (L, e) (hSp v f) m r T) := by
  rcases (by omega : v = 0 ∨ v = 1 ∨ v = 2 ∨ v = 3 ∨ v = 4 ∨ v = 5) with h | h | h | h | h | h
  · subst h; exact k_gisHelped_0 g hf
  · subst h; exact k_gisHelped_1 g hf
  · subst h; exact k_gisHelped_2 g hf
  · subst h; exact k_gisHelped_3 g hf
  · subst h; exact k_gisHelped_4 g hf
  · subst h; exact k_gisHelped_5 g hf
theorem gl_done {A : aT} (O : aOk A) (J : iG A m) {x y : Int} (hx : -2147483648 ≤ x ∧ x ≤ 2147483647) (hy : -2147483648 ≤ y ∧ y ≤ 2147483647) : jq sc 14 jm_X12_done [.ref 45, .int (jI x), .int (jI y)] (jh m r T) (gQ (aDone A x y) m r T) := by
  have c6 := O.c6
  have fs := O.fs
  have jc := J.c
  refine je_in jb_X12_done rfl (ls := [_, _, _]) rfl ?_
  refine je_ps jb_X12_done 2 (pc' := 2) (ls' := [_, _, _]) (st' := [_, _]) rfl ?_
  refine je_cvP' jb_X12_done rfl (pc' := 5) rfl (jh_at (a := 45) rfl) (by rfl) (by first | decide | exact Nat.ble_eq_true_of_le (by omega)) (k_gisHelper J.hc (by have := O.h4; omega) hx) (st' := [_]) rfl ?_
  refine je_ifeqb jb_X12_done rfl (t := 16) rfl (pc' := 8) rfl (fun c5 => ?_) (fun c5 => ?_)
  · refine je_ps jb_X12_done 2 (pc' := 18) (ls' := [_, _, _]) (st' := [_, _]) rfl ?_
    refine je_cvP' jb_X12_done rfl (pc' := 21) rfl (jh_at (a := 45) rfl) (by rfl) (by first | decide | exact Nat.ble_eq_true_of_le (by omega)) (c_X12_refused (by omega)) (st' := [_]) rfl ?_
    first | (rw [show aDone A x y = aRef A (-1) from by unfold aDone; rw [if_neg (fun h => of_decide_eq_false c5 h.1)]]; exact je_ret jb_X12_done rfl (by rfl) ⟨_, rfl, rfl, J.ref (by omega), (kC.rfl' m).u (by decide) _⟩) | (rw [show aDone A x y = aRef A (-1) from by unfold aDone; rw [if_neg (fun h => of_decide_eq_false c13 h.2)]]; exact je_ret jb_X12_done rfl (by rfl) ⟨_, rfl, rfl, J.ref (by omega), (kC.rfl' m).u (by decide) _⟩)
  · refine je_ps jb_X12_done 2 (pc' := 10) (ls' := [_, _, _]) (st' := [_, _]) rfl ?_
    refine je_cvP' jb_X12_done rfl (pc' := 13) rfl (jh_at (a := 45) rfl) (by rfl) (by first | decide | exact Nat.ble_eq_true_of_le (by omega)) (k_gisWalk J.c (by omega) hy) (st' := [_]) rfl ?_
    refine je_ifneb jb_X12_done rfl (t := 22) rfl (pc' := 16) rfl (fun c13 => ?_) (fun c13 => ?_)
    · have h4 := O.h4
      have hu := of_decide_eq_true c5
      have hv := of_decide_eq_true c13
      have ho := O.ho (i := x.toNat) (by omega)
      obtain ⟨e47, e48⟩ := J.he hu
      have gv := J.wk O hv
      have ov := O.wo (i := y.toNat) (by omega)
      have os := sq_ok fs (hSp (aH A x.toNat).1 (aH A x.toNat).2) (aW A y.toNat) ov
      have g6 : gWk (gW m 6 (aW A y.toNat).1 (aW A y.toNat).2) 6 (aS A) (aN A) (aK A) (aW A y.toNat).1 (aW A y.toNat).2 := gWk.w gv.1 (by omega) ov.1 ov.2.1
      refine je_ps jb_X12_done 3 (pc' := 26) (ls' := [_, _, _]) (st' := [_, _, _]) rfl ?_
      refine je_cvP' jb_X12_done rfl (pc' := 29) rfl (jh_at (a := 45) rfl) (by rfl) (by first | decide | exact Nat.ble_eq_true_of_le (by omega)) (k_glikens (gv.raw) (by omega) (by omega)) (st' := []) rfl ?_
      refine je_ps jb_X12_done 3 (pc' := 33) (ls' := [_, _, _]) (st' := [_, _, _]) rfl ?_
      refine je_get jb_X12_done rfl (pc' := 36) rfl (jh_at (a := 45) rfl) (by rfl) (by rfl) ?_
      refine je_ps jb_X12_done 1 (pc' := 37) (ls' := [_, _, _]) (st' := [_, _, _, _]) rfl ?_
      refine je_iald jb_X12_done rfl (pc' := 38) rfl (n := 4) (f := _) (jh_at (a := 49) rfl) (by first | omega | exact (hM _ _).1 | exact (hM _ _).2) (by first | omega | exact (hM _ _).1 | exact (hM _ _).2) (by first | omega | exact (hM _ _).1 | exact (hM _ _).2) ?_
      refine je_ps jb_X12_done 1 (pc' := 39) (ls' := [_, _, _]) (st' := [_, _, _, _]) rfl ?_
      refine je_get jb_X12_done rfl (pc' := 42) rfl (jh_at (a := 45) rfl) (by rfl) (by rfl) ?_
      refine je_ps jb_X12_done 1 (pc' := 43) (ls' := [_, _, _]) (st' := [_, _, _, _, _]) rfl ?_
      refine je_iald jb_X12_done rfl (pc' := 44) rfl (n := 4) (f := _) (jh_at (a := 50) rfl) (by first | omega | exact (hM _ _).1 | exact (hM _ _).2) (by first | omega | exact (hM _ _).1 | exact (hM _ _).2) (by first | omega | exact (hM _ _).1 | exact (hM _ _).2) ?_
      rw [gW_43 _ _ _ _ (by decide) (by decide), gW_43 _ _ _ _ (by decide) (by decide), e47, e48]
      refine je_cv jb_X12_done rfl (pc' := 47) rfl (jh_at (a := 45) rfl) (by rfl) (by first | decide | exact Nat.ble_eq_true_of_le (by omega)) (k_gisHelped g6 ho.1 ho.2) ?_
      rintro _ _ ⟨L1, e1, rfl, rfl, h1⟩
      show je _ _ _ _ _ [_] _ _
      refine je_ifneb jb_X12_done rfl (t := 57) rfl (pc' := 50) rfl (fun c47 => ?_) (fun c47 => ?_)
      · rw [gW_W]
        have hs := h1 c47
        have hs1 : (sq (aS A) (aN A) (aK A) (aW A y.toNat) (hSp (aH A x.toNat).1 (aH A x.toNat).2)).2.1 = L1 := by rw [hs]
        have hs2 : (sq (aS A) (aN A) (aK A) (aW A y.toNat) (hSp (aH A x.toNat).1 (aH A x.toNat).2)).2.2 = e1 := by rw [hs]
        subst hs1; subst hs2
        refine je_ps jb_X12_done 3 (pc' := 61) (ls' := [_, _, _]) (st' := [_, _, _]) rfl ?_
        refine je_cvP' jb_X12_done rfl (pc' := 64) rfl (jh_at (a := 45) rfl) (by rfl) (by first | decide | exact Nat.ble_eq_true_of_le (by omega)) (k_glikens (gR.w (by omega)) (by omega) (by omega)) (st' := []) rfl ?_
        have gy : gWk (gW (gW m 6 (sq (aS A) (aN A) (aK A) (aW A y.toNat) (hSp (aH A x.toNat).1 (aH A x.toNat).2)).2.1 (sq (aS A) (aN A) (aK A) (aW A y.toNat) (hSp (aH A x.toNat).1 (aH A x.toNat).2)).2.2) y (sq (aS A) (aN A) (aK A) (aW A y.toNat) (hSp (aH A x.toNat).1 (aH A x.toNat).2)).2.1 (sq (aS A) (aN A) (aK A) (aW A y.toNat) (hSp (aH A x.toNat).1 (aH A x.toNat).2)).2.2) y (aS A) (aN A) (aK A) (sq (aS A) (aN A) (aK A) (aW A y.toNat) (hSp (aH A x.toNat).1 (aH A x.toNat).2)).2.1 (sq (aS A) (aN A) (aK A) (aW A y.toNat) (hSp (aH A x.toNat).1 (aH A x.toNat).2)).2.2 := gWk.w (gv.1.w 6 _ _) (by omega) os.1 os.2.1
        refine je_ps jb_X12_done 2 (pc' := 66) (ls' := [_, _, _]) (st' := [_, _]) rfl ?_
        refine je_cv jb_X12_done rfl (pc' := 69) rfl (jh_at (a := 45) rfl) (by rfl) (by first | decide | exact Nat.ble_eq_true_of_le (by omega)) (k_glength gy) ?_
        rintro _ _ ⟨m1, rfl, rfl, h2⟩
        show je _ _ _ _ _ [_] _ _
        rw [show aDone A x y = (fLen (aS A) (aN A) (aK A) (sq (aS A) (aN A) (aK A) (aW A y.toNat) (hSp (aH A x.toNat).1 (aH A x.toNat).2)).2.1 (sq (aS A) (aN A) (aK A) (aW A y.toNat) (hSp (aH A x.toNat).1 (aH A x.toNat).2)).2.2, sWk A y.toNat (sq (aS A) (aN A) (aK A) (aW A y.toNat) (hSp (aH A x.toNat).1 (aH A x.toNat).2)).2) from by unfold aDone; rw [if_pos ⟨hu, hv⟩, if_pos c47]]
        exact je_ret jb_X12_done rfl (by rfl) ⟨_, rfl, rfl, ((J.rows 6 (sq (aS A) (aN A) (aK A) (aW A y.toNat) (hSp (aH A x.toNat).1 (aH A x.toNat).2)).2.1 (sq (aS A) (aN A) (aK A) (aW A y.toNat) (hSp (aH A x.toNat).1 (aH A x.toNat).2)).2.2 (nW c6 (by omega))).set c6 hv (sq (aS A) (aN A) (aK A) (aW A y.toNat) (hSp (aH A x.toNat).1 (aH A x.toNat).2)).2).y c6 h2.y, (((kC.rfl' m).w 6 _ _).w y _ _).y h2.y⟩
      · refine je_ps jb_X12_done 2 (pc' := 53) (ls' := [_, _, _]) (st' := [_, _]) rfl ?_
        refine je_cvP' jb_X12_done rfl (pc' := 56) rfl (jh_at (a := 45) rfl) (by rfl) (by first | decide | exact Nat.ble_eq_true_of_le (by omega)) (c_X12_refused (by omega)) (st' := [_]) rfl ?_
        rw [gW_W]
        rw [show aDone A x y = aRef A (-6) from by unfold aDone; rw [if_pos ⟨hu, hv⟩, if_neg (by rw [c47]; decide)]]
        exact je_ret jb_X12_done rfl (by rfl) ⟨_, rfl, rfl, (J.rows 6 L1 e1 (nW c6 (by omega))).ref (by omega), ((kC.rfl' m).w 6 L1 e1).u (by decide) _⟩
    · refine je_ps jb_X12_done 2 (pc' := 18) (ls' := [_, _, _]) (st' := [_, _]) rfl ?_
      refine je_cvP' jb_X12_done rfl (pc' := 21) rfl (jh_at (a := 45) rfl) (by rfl) (by first | decide | exact Nat.ble_eq_true_of_le (by omega)) (c_X12_refused (by omega)) (st' := [_]) rfl ?_
      first | (rw [show aDone A x y = aRef A (-1) from by unfold aDone; rw [if_neg (fun h => of_decide_eq_false c5 h.1)]]; exact je_ret jb_X12_done rfl (by rfl) ⟨_, rfl, rfl, J.ref (by omega), (kC.rfl' m).u (by decide) _⟩) | (rw [show aDone A x y = aRef A (-1) from by unfold aDone; rw [if_neg (fun h => of_decide_eq_false c13 h.2)]]; exact je_ret jb_X12_done rfl (by rfl) ⟨_, rfl, rfl, J.ref (by omega), (kC.rfl' m).u (by decide) _⟩)
end C72
