/-! THE OTHER SIDE: lengths, longer ones, dead ends -/
section C45
variable {sc : Nat × (Nat → Int32)} {m : Nat → Int → Int} {r : Nat → Nat → Value} {T : jx_H} {σ : jx_H}
theorem k_gtour {s n k f t : Int} {L : Int → Int} (g : gSt m s n k) (hd : gDu m n L) (hL : fL n k L) (hf : fC s n f) (ht : fC s n t) : jq sc 2 jm_X12_tour [.ref 45, .int (jI f), .int (jI t)] (jh m r T) (fun v σ => ∃ m', v = some (.int (jI (fTour s n L t f))) ∧ σ = jh m' r T ∧ gD m m') := by
  have gs := g.2
  unfold fS at gs
  have b1 := fC_i g.2 hf
  have b2 := fC_i g.2 ht
  obtain ⟨q1, q2, q3, q4⟩ := g.1
  rcases (by omega : s = 0 ∨ s = 1) with h | h
  · subst h
    refine je_in jb_X12_tour rfl (ls := [_, _, _]) rfl ?_
    refine je_ps jb_X12_tour 1 (pc' := 1) (ls' := [_, _, _]) (st' := [_]) rfl ?_
    refine je_get jb_X12_tour rfl (pc' := 4) rfl (jh_at (a := 45) rfl) (by rfl) (by rfl) ?_
    refine je_ifeq jb_X12_tour rfl (t := 16) rfl (pc' := 7) rfl (by first | omega | exact (hM _ _).1 | exact (hM _ _).2) (by first | omega | exact (hM _ _).1 | exact (hM _ _).2) (fun c4 => ?_) (fun c4 => ?_)
    · refine je_ps jb_X12_tour 3 (pc' := 19) (ls' := [_, _, _]) (st' := [_, _, _]) rfl ?_
      refine je_cvP' jb_X12_tour rfl (pc' := 22) rfl (jh_at (a := 45) rfl) (by rfl) (by first | decide | exact Nat.ble_eq_true_of_le (by omega)) (k_glineTour g hd hL (by omega) (by omega)) (st' := [_]) rfl ?_
      exact je_ret jb_X12_tour rfl (by rfl) ⟨_, rfl, rfl, gD.rfl' m⟩
    · first | (exfalso; omega) | (cases c4; done) | (exfalso; simp_all; done)
  · subst h
    refine je_in jb_X12_tour rfl (ls := [_, _, _]) rfl ?_
    refine je_ps jb_X12_tour 1 (pc' := 1) (ls' := [_, _, _]) (st' := [_]) rfl ?_
    refine je_get jb_X12_tour rfl (pc' := 4) rfl (jh_at (a := 45) rfl) (by rfl) (by rfl) ?_
    refine je_ifeq jb_X12_tour rfl (t := 16) rfl (pc' := 7) rfl (by first | omega | exact (hM _ _).1 | exact (hM _ _).2) (by first | omega | exact (hM _ _).1 | exact (hM _ _).2) (fun c4 => ?_) (fun c4 => ?_)
    · first | (exfalso; omega) | (cases c4; done) | (exfalso; simp_all; done)
    · refine je_ps jb_X12_tour 3 (pc' := 10) (ls' := [_, _, _]) (st' := [_, _, _]) rfl ?_
      refine je_cv jb_X12_tour rfl (pc' := 13) rfl (jh_at (a := 45) rfl) (by rfl) (by first | decide | exact Nat.ble_eq_true_of_le (by omega)) (k_gringTour g hd hL hf ht) ?_
      rintro _ _ ⟨m1, rfl, rfl, h1⟩
      show je _ _ _ _ _ [_] _ _
      refine je_ps jb_X12_tour 1 (pc' := 22) (ls' := [_, _, _]) (st' := [_]) rfl ?_
      exact je_ret jb_X12_tour rfl (by rfl) ⟨_, rfl, rfl, h1⟩
theorem k_glength {w s n k e : Int} {L : Int → Int} (g : gWk m w s n k L e) : jq sc 3 jm_X12_length [.ref 45, .int (jI w)] (jh m r T) (fun v σ => ∃ m', v = some (.int (jI (fLen s n k L e))) ∧ σ = jh m' r T ∧ gD m m') := by
  have hw := g.2.1
  have d1 : gD m (jU m 51 (jF (m 51) L n)) := (gD.rfl' m).d _
  have g1 := d1.k g
  have du := gDu_is m n L
  have hL := g.2.2.2.2.1
  have he := g.2.2.2.2.2
  have ge := g1.2.2.2.1
  have gc := fC_i g.1.2 he
  have h1 := fTn_i hL (by have := g.1.2.2; omega)
  have h2 := fTour_i (L := L) g.1.2 (e := e) (st := 0) (by omega) (by omega)
  refine je_in jb_X12_length rfl (ls := [_, _]) rfl ?_
  refine je_ps jb_X12_length 2 (pc' := 2) (ls' := [_, _]) (st' := [_, _]) rfl ?_
  refine je_cvP' jb_X12_length rfl (pc' := 5) rfl (jh_at (a := 45) rfl) (by rfl) (by first | decide | exact Nat.ble_eq_true_of_le (by omega)) (k_gdues g) (st' := []) rfl ?_
  refine je_ps jb_X12_length 1 (pc' := 6) (ls' := [_, _]) (st' := [_]) rfl ?_
  refine je_cvP' jb_X12_length rfl (pc' := 9) rfl (jh_at (a := 45) rfl) (by rfl) (by first | decide | exact Nat.ble_eq_true_of_le (by omega)) (k_gturns g1.1 du hL) (st' := [_]) rfl ?_
  refine je_ps jb_X12_length 3 (pc' := 12) (ls' := [_, _]) (st' := [_, _, _, _]) rfl ?_
  refine je_get jb_X12_length rfl (pc' := 15) rfl (jh_at (a := 45) rfl) (by rfl) (by rfl) ?_
  refine je_ps jb_X12_length 1 (pc' := 16) (ls' := [_, _]) (st' := [_, _, _, _, _]) rfl ?_
  refine je_iald jb_X12_length rfl (pc' := 17) rfl (n := 9) (f := _) (jh_at (a := 48) rfl) (by first | omega | exact (hM _ _).1 | exact (hM _ _).2) (by first | omega | exact (hM _ _).1 | exact (hM _ _).2) (by first | omega | exact (hM _ _).1 | exact (hM _ _).2) ?_
  rw [ge]
  refine je_cv jb_X12_length rfl (pc' := 20) rfl (jh_at (a := 45) rfl) (by rfl) (by first | decide | exact Nat.ble_eq_true_of_le (by omega)) (k_gtour g1.1 du hL (fC_0 g.1.2) he) ?_
  rintro _ _ ⟨m1, rfl, rfl, h3⟩
  show je _ _ _ _ _ [_, _] _ _
  refine je_iadd jb_X12_length rfl (pc' := 21) rfl ?_
  exact je_ret jb_X12_length rfl (by rfl) ⟨_, rfl, rfl, d1.tr h3⟩
theorem k_gisLonger {w s n k base : Int} (hb : 0 ≤ base ∧ base ≤ 20000) : ∀ l : Nat, l ≤ 4 → ∀ (m : Nat → Int → Int) (L : Int → Int) (e : Int), gWk m w s n k L e → jq sc (l + 5) jm_X12_isLonger [.ref 45, .int (jI w), .int (jI l), .int (jI base)] (jh m r T) (fun v σ => ∃ m', v = some (.int (jI (jb (fGrow s n k base l L e)))) ∧ σ = jh m' r T ∧ gD m m') := by
  intro l
  induction l with
  | zero =>
    intro _ m L e g
    have gn := fLen_i g.1.2 g.2.2.2.2.1 g.2.2.2.2.2
    unfold fGrow
    refine je_in jb_X12_isLonger rfl (ls := [_, _, _, _, _, _]) rfl ?_
    refine je_ps jb_X12_isLonger 1 (pc' := 1) (ls' := [_, _, _, _, _, _]) (st' := [_]) rfl ?_
    refine je_ifne jb_X12_isLonger rfl (t := 19) rfl (pc' := 4) rfl (by first | omega | exact (hM _ _).1 | exact (hM _ _).2) (by first | omega | exact (hM _ _).1 | exact (hM _ _).2) (fun c1 => ?_) (fun c1 => ?_)
    · first | (exfalso; omega) | (cases c1; done) | (exfalso; simp_all; done)
    · refine je_ps jb_X12_isLonger 2 (pc' := 6) (ls' := [_, _, _, _, _, _]) (st' := [_, _]) rfl ?_
      refine je_cv jb_X12_isLonger rfl (pc' := 9) rfl (jh_at (a := 45) rfl) (by rfl) (by first | decide | exact Nat.ble_eq_true_of_le (by omega)) (k_glength g) ?_
      rintro _ _ ⟨m1, rfl, rfl, h1⟩
      show je _ _ _ _ _ [_] _ _
      refine je_ps jb_X12_isLonger 1 (pc' := 10) (ls' := [_, _, _, _, _, _]) (st' := [_, _]) rfl ?_
      refine je_icmple jb_X12_isLonger rfl (t := 17) rfl (pc' := 13) rfl (by first | omega | exact (hM _ _).1 | exact (hM _ _).2) (by first | omega | exact (hM _ _).1 | exact (hM _ _).2) (by first | omega | exact (hM _ _).1 | exact (hM _ _).2) (by first | omega | exact (hM _ _).1 | exact (hM _ _).2) (fun c10 => ?_) (fun c10 => ?_)
      · refine je_ps jb_X12_isLonger 1 (pc' := 18) (ls' := [_, _, _, _, _, _]) (st' := [_]) rfl ?_
        first | exact je_ret jb_X12_isLonger rfl (by rfl) ⟨_, jv_f (decide_eq_false (by omega)), rfl, h1⟩ | exact je_ret jb_X12_isLonger rfl (by rfl) ⟨_, jv_t (decide_eq_true (by omega)), rfl, h1⟩
      · refine je_ps jb_X12_isLonger 2 (pc' := 18) (ls' := [_, _, _, _, _, _]) (st' := [_]) rfl ?_
        first | exact je_ret jb_X12_isLonger rfl (by rfl) ⟨_, jv_f (decide_eq_false (by omega)), rfl, h1⟩ | exact je_ret jb_X12_isLonger rfl (by rfl) ⟨_, jv_t (decide_eq_true (by omega)), rfl, h1⟩
  | succ l ih =>
    intro hl m L e g0
    have ih' := ih (by omega)
    refine je_in jb_X12_isLonger rfl (ls := [_, _, _, _, _, _]) rfl ?_
    refine je_ps jb_X12_isLonger 1 (pc' := 1) (ls' := [_, _, _, _, _, _]) (st' := [_]) rfl ?_
    refine je_ifne jb_X12_isLonger rfl (t := 19) rfl (pc' := 4) rfl (by first | omega | exact (hM _ _).1 | exact (hM _ _).2) (by first | omega | exact (hM _ _).1 | exact (hM _ _).2) (fun c1 => ?_) (fun c1 => ?_)
    · refine je_ps jb_X12_isLonger 4 (pc' := 25) (ls' := [_, _, _, _, _, _]) (st' := []) rfl ?_
      refine je_loop (fun (v : Nat) ls σ' => ∃ m1, ls = [.ref 45, .int (jI w), .int (jI (l + 1 : Nat)), .int (jI base), .int (jI (jb (fAny (fun q => (fGo s n k L e (q : Int)).1 && fGrow s n k base l (fGo s n k L e (q : Int)).2.1 (fGo s n k L e (q : Int)).2.2) v))), .int (jI v)] ∧ σ' = jh m1 r T ∧ gD m m1) (4) ⟨_, rfl, rfl, gD.rfl' m⟩ (fun v hv ls σ' gv kv => ?_) (fun ls σ' gv => ?_)
      · obtain ⟨m1, rfl, rfl, fx⟩ := gv
        have g := fx.k g0
        have hs := fAny_s (fun q => (fGo s n k L e (q : Int)).1 && fGrow s n k base l (fGo s n k L e (q : Int)).2.1 (fGo s n k L e (q : Int)).2.2) v
        have gq := fGo_ok (c := (v : Int)) g0.1.2 g0.2.2.2.2.1 g0.2.2.2.2.2
        refine je_ps jb_X12_isLonger 2 (pc' := 28) (ls' := [_, _, _, _, _, _]) (st' := [_, _]) rfl ?_
        refine je_icmpge jb_X12_isLonger rfl (t := 73) rfl (pc' := 31) rfl (by first | omega | exact (hM _ _).1 | exact (hM _ _).2) (by first | omega | exact (hM _ _).1 | exact (hM _ _).2) (by first | omega | exact (hM _ _).1 | exact (hM _ _).2) (by first | omega | exact (hM _ _).1 | exact (hM _ _).2) (fun c28 => ?_) (fun c28 => ?_)
        · first | (exfalso; omega) | (cases c28; done) | (exfalso; simp_all; done)
        · refine je_ps jb_X12_isLonger 1 (pc' := 33) (ls' := [_, _, _, _, _, _]) (st' := [_]) rfl ?_
          refine je_ifneb jb_X12_isLonger rfl (t := 73) rfl (pc' := 36) rfl (fun c33 => ?_) (fun c33 => ?_)
          · refine je_ps jb_X12_isLonger 1 (pc' := 75) (ls' := [_, _, _, _, _, _]) (st' := [_]) rfl ?_
            first | (rw [c33]; exact je_retb jb_X12_isLonger rfl ⟨_, by rw [show fGrow s n k base (l + 1) L e = true from fAny_up c33 (by omega)], rfl, fx⟩) | exact je_retb jb_X12_isLonger rfl ⟨_, rfl, rfl, fx⟩
          · refine je_ps jb_X12_isLonger 3 (pc' := 40) (ls' := [_, _, _, _, _, _]) (st' := [_, _, _]) rfl ?_
            refine je_cvP' jb_X12_isLonger rfl (pc' := 43) rfl (jh_at (a := 45) rfl) (by rfl) (by first | decide | exact Nat.ble_eq_true_of_le (by omega)) (k_gdoes g (by omega)) (st' := [_]) rfl ?_
            refine je_ifeqb jb_X12_isLonger rfl (t := 67) rfl (pc' := 46) rfl (fun c43 => ?_) (fun c43 => ?_)
            · refine je_iinc jb_X12_isLonger rfl (pc' := 70) rfl rfl (ls' := [_, _, _, _, _, _]) rfl ?_
              refine je_ps jb_X12_isLonger 1 (pc' := 25) (ls' := [_, _, _, _, _, _]) (st' := []) rfl ?_
              rw [hs, c33] at kv
              first | (rw [show (fGo s n k L e (v : Int)).1 = true from c43] at kv; refine kv _ _ ⟨_, rfl, rfl, fx.tr ?_⟩; have b1 := hm2.w w L e; rw [gW_W, gW_self (fx.k g0)] at b1; rw [fGo_back g0.1.2 g0.2.2.2.2.1 g0.2.2.2.2.2 c43]; exact b1) | (rw [show (fGo s n k L e (v : Int)).1 = false from c43] at kv; refine kv _ _ ⟨_, by rw [c33]; rfl, rfl, ?_⟩; rw [fGo_no c43, gW_self g]; exact fx)
            · have g := gWk.w (m := m1) g.1 g.2.1 gq.1 gq.2
              have gx := fX_i (v : Int)
              refine je_ps jb_X12_isLonger 4 (pc' := 50) (ls' := [_, _, _, _, _, _]) (st' := [_, _, _, _]) rfl ?_
              refine je_isub jb_X12_isLonger rfl (pc' := 51) rfl ?_
              refine je_ps jb_X12_isLonger 1 (pc' := 52) (ls' := [_, _, _, _, _, _]) (st' := [_, _, _, _]) rfl ?_
              rw [show ((l + 1 : Nat) : Int) - 1 = (l : Int) by omega]
              refine je_cv jb_X12_isLonger rfl (pc' := 55) rfl (jh_at (a := 45) rfl) (by rfl) (by first | decide | exact Nat.ble_eq_true_of_le (by omega)) (ih' _ _ _ g) ?_
              rintro _ _ ⟨m2, rfl, rfl, hm2⟩
              show je _ _ _ _ _ [_] _ _
              have g2 := hm2.k g
              refine je_ps jb_X12_isLonger 5 (pc' := 62) (ls' := [_, _, _, _, _, _]) (st' := [_, _, _, _]) rfl ?_
              refine je_ixor1 jb_X12_isLonger rfl (pc' := 63) rfl (by omega) (by omega) ?_
              refine je_cvP' jb_X12_isLonger rfl (pc' := 66) rfl (jh_at (a := 45) rfl) (by rfl) (by first | decide | exact Nat.ble_eq_true_of_le (by omega)) (k_gdoes g2 (by omega)) (st' := [_]) rfl ?_
              refine je_ps jb_X12_isLonger 1 (pc' := 67) (ls' := [_, _, _, _, _, _]) (st' := []) rfl ?_
              refine je_iinc jb_X12_isLonger rfl (pc' := 70) rfl rfl (ls' := [_, _, _, _, _, _]) rfl ?_
              refine je_ps jb_X12_isLonger 1 (pc' := 25) (ls' := [_, _, _, _, _, _]) (st' := []) rfl ?_
              rw [hs, c33] at kv
              first | (rw [show (fGo s n k L e (v : Int)).1 = true from c43] at kv; refine kv _ _ ⟨_, rfl, rfl, fx.tr ?_⟩; have b1 := hm2.w w L e; rw [gW_W, gW_self (fx.k g0)] at b1; rw [fGo_back g0.1.2 g0.2.2.2.2.1 g0.2.2.2.2.2 c43]; exact b1) | (rw [show (fGo s n k L e (v : Int)).1 = false from c43] at kv; refine kv _ _ ⟨_, by rw [c33]; rfl, rfl, ?_⟩; rw [fGo_no c43, gW_self g]; exact fx)
      · obtain ⟨m1, rfl, rfl, fx⟩ := gv
        refine je_ps jb_X12_isLonger 2 (pc' := 28) (ls' := [_, _, _, _, _, _]) (st' := [_, _]) rfl ?_
        refine je_icmpge jb_X12_isLonger rfl (t := 73) rfl (pc' := 31) rfl (by first | omega | exact (hM _ _).1 | exact (hM _ _).2) (by first | omega | exact (hM _ _).1 | exact (hM _ _).2) (by first | omega | exact (hM _ _).1 | exact (hM _ _).2) (by first | omega | exact (hM _ _).1 | exact (hM _ _).2) (fun c28 => ?_) (fun c28 => ?_)
        · refine je_ps jb_X12_isLonger 1 (pc' := 75) (ls' := [_, _, _, _, _, _]) (st' := [_]) rfl ?_
          first | (rw [c33]; exact je_retb jb_X12_isLonger rfl ⟨_, by rw [show fGrow s n k base (l + 1) L e = true from fAny_up c33 (by omega)], rfl, fx⟩) | exact je_retb jb_X12_isLonger rfl ⟨_, rfl, rfl, fx⟩
        · first | (exfalso; omega) | (cases c28; done) | (exfalso; simp_all; done)
    · first | (exfalso; omega) | (cases c1; done) | (exfalso; simp_all; done)
theorem k_gisDead {w s n k e : Int} {L : Int → Int} (g : gWk m w s n k L e) : jq sc 7 jm_X12_isDead [.ref 45, .int (jI w)] (jh m r T) (fun v σ => ∃ m', v = some (.int (jI (jb (!fGrow s n k (fLen s n k L e) 1 L e)))) ∧ σ = jh m' r T ∧ gD m m') := by
  have gn := fLen_i g.1.2 g.2.2.2.2.1 g.2.2.2.2.2
  refine je_in jb_X12_isDead rfl (ls := [_, _]) rfl ?_
  refine je_ps jb_X12_isDead 5 (pc' := 5) (ls' := [_, _]) (st' := [_, _, _, _, _]) rfl ?_
  refine je_cv jb_X12_isDead rfl (pc' := 8) rfl (jh_at (a := 45) rfl) (by rfl) (by first | decide | exact Nat.ble_eq_true_of_le (by omega)) (k_glength g) ?_
  rintro _ _ ⟨m1, rfl, rfl, h1⟩
  show je _ _ _ _ _ [_, _, _, _] _ _
  refine je_cv jb_X12_isDead rfl (pc' := 11) rfl (jh_at (a := 45) rfl) (by rfl) (by first | decide | exact Nat.ble_eq_true_of_le (by omega)) (k_gisLonger (by omega) 1 (by omega) _ _ _ (h1.k g)) ?_
  rintro _ _ ⟨m2, rfl, rfl, h2⟩
  show je _ _ _ _ _ [_] _ _
  refine je_ifneb jb_X12_isDead rfl (t := 18) rfl (pc' := 14) rfl (fun c11 => ?_) (fun c11 => ?_)
  · refine je_ps jb_X12_isDead 1 (pc' := 19) (ls' := [_, _]) (st' := [_]) rfl ?_
    rw [c11]
    exact je_ret jb_X12_isDead rfl (by rfl) ⟨_, rfl, rfl, h1.tr h2⟩
  · refine je_ps jb_X12_isDead 2 (pc' := 19) (ls' := [_, _]) (st' := [_]) rfl ?_
    rw [c11]
    exact je_ret jb_X12_isDead rfl (by rfl) ⟨_, rfl, rfl, h1.tr h2⟩
theorem k_gdepth {w s n k e : Int} {L : Int → Int} (g : gWk m w s n k L e) : jq sc 10 jm_X12_depth [.ref 45, .int (jI w)] (jh m r T) (fun v σ => ∃ m', v = some (.int (jI (fDep s n k L e))) ∧ σ = jh m' r T ∧ gD m m') := by
  have gn := fLen_i g.1.2 g.2.2.2.2.1 g.2.2.2.2.2
  refine je_in jb_X12_depth rfl (ls := [_, _, _, _]) rfl ?_
  refine je_ps jb_X12_depth 2 (pc' := 2) (ls' := [_, _, _, _]) (st' := [_, _]) rfl ?_
  refine je_cv jb_X12_depth rfl (pc' := 5) rfl (jh_at (a := 45) rfl) (by rfl) (by first | decide | exact Nat.ble_eq_true_of_le (by omega)) (k_glength g) ?_
  rintro _ _ ⟨m0, rfl, rfl, h0⟩
  show je _ _ _ _ _ [_] _ _
  refine je_ps jb_X12_depth 3 (pc' := 8) (ls' := [_, _, _, _]) (st' := []) rfl ?_
  refine je_loop (fun (v : Nat) ls σ' => ∃ m1, ls = [.ref 45, .int (jI w), .int (jI (fLen s n k L e)), .int (jI ((v : Int) + 1))] ∧ σ' = jh m1 r T ∧ gD m m1 ∧ ∀ q, q < v → fGrow s n k (fLen s n k L e) (q + 1) L e = false) (4) ⟨_, rfl, rfl, h0, fun q hq => by omega⟩ (fun v hv ls σ' gv kv => ?_) (fun ls σ' gv => ?_)
  · obtain ⟨m1, rfl, rfl, ⟨fx, fv⟩⟩ := gv
    refine je_ps jb_X12_depth 2 (pc' := 10) (ls' := [_, _, _, _]) (st' := [_, _]) rfl ?_
    refine je_icmpgt jb_X12_depth rfl (t := 31) rfl (pc' := 13) rfl (by first | omega | exact (hM _ _).1 | exact (hM _ _).2) (by first | omega | exact (hM _ _).1 | exact (hM _ _).2) (by first | omega | exact (hM _ _).1 | exact (hM _ _).2) (by first | omega | exact (hM _ _).1 | exact (hM _ _).2) (fun c10 => ?_) (fun c10 => ?_)
    · first | (exfalso; omega) | (cases c10; done) | (exfalso; simp_all; done)
    · refine je_ps jb_X12_depth 4 (pc' := 17) (ls' := [_, _, _, _]) (st' := [_, _, _, _]) rfl ?_
      refine je_cv jb_X12_depth rfl (pc' := 20) rfl (jh_at (a := 45) rfl) (by rfl) (by first | decide | exact Nat.ble_eq_true_of_le (by omega)) (k_gisLonger (by omega) (v + 1) (by omega) _ _ _ (fx.k g)) ?_
      rintro _ _ ⟨m2, rfl, rfl, h1⟩
      show je _ _ _ _ _ [_] _ _
      refine je_ifeqb jb_X12_depth rfl (t := 25) rfl (pc' := 23) rfl (fun c20 => ?_) (fun c20 => ?_)
      · refine je_iinc jb_X12_depth rfl (pc' := 28) rfl rfl (ls' := [_, _, _, _]) rfl ?_
        refine je_ps jb_X12_depth 1 (pc' := 8) (ls' := [_, _, _, _]) (st' := []) rfl ?_
        refine kv _ _ ⟨_, rfl, rfl, fx.tr h1, fun q hq => ?_⟩
        by_cases h : q = v
        · subst h; exact c20
        · exact fv q (by omega)
      · refine je_ps jb_X12_depth 1 (pc' := 24) (ls' := [_, _, _, _]) (st' := [_]) rfl ?_
        have q : fFst (fun q => fGrow s n k (fLen s n k L e) (q + 1) L e) 0 4 = v := fFst_hit (P := fun q => fGrow s n k (fLen s n k L e) (q + 1) L e) c20 4 0 (by omega) (by omega) (fun q _ hq => fv q hq)
        exact je_ret jb_X12_depth rfl (by rfl) ⟨_, jv_I (by unfold fDep; simp only [q]; rw [if_pos hv]), rfl, fx.tr h1⟩
  · obtain ⟨m1, rfl, rfl, ⟨fx, fv⟩⟩ := gv
    refine je_ps jb_X12_depth 2 (pc' := 10) (ls' := [_, _, _, _]) (st' := [_, _]) rfl ?_
    refine je_icmpgt jb_X12_depth rfl (t := 31) rfl (pc' := 13) rfl (by first | omega | exact (hM _ _).1 | exact (hM _ _).2) (by first | omega | exact (hM _ _).1 | exact (hM _ _).2) (by first | omega | exact (hM _ _).1 | exact (hM _ _).2) (by first | omega | exact (hM _ _).1 | exact (hM _ _).2) (fun c10 => ?_) (fun c10 => ?_)
    · refine je_ps jb_X12_depth 1 (pc' := 33) (ls' := [_, _, _, _]) (st' := [_]) rfl ?_
      have q : fFst (fun q => fGrow s n k (fLen s n k L e) (q + 1) L e) 0 4 = 0 + 4 := fFst_none 4 0 (fun q _ hq => fv q (by omega))
      exact je_ret jb_X12_depth rfl (by rfl) ⟨_, jv_I (by unfold fDep; simp only [q]; rfl), rfl, fx⟩
    · first | (exfalso; omega) | (cases c10; done) | (exfalso; simp_all; done)
end C45
