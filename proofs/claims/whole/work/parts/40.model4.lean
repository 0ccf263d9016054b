/-! THE OTHER SIDE: bare, order, dues, turns, lit, the tour on a line -/
section C40
variable {sc : Nat × (Nat → Int32)} {m : Nat → Int → Int} {r : Nat → Nat → Value} {T : jx_H} {σ : jx_H}
theorem fAll_s (P : Nat → Bool) (v : Nat) : fAll P (v + 1) = (fAll P v && P v) := by
  unfold fAll
  rw [List.range_succ, List.all_append]
  simp
theorem fS_n {s n k : Int} (h : fS s n k) : 3 ≤ n ∧ n ≤ 25 := by
  unfold fS at h
  omega
theorem k_gisBare {w s n k e : Int} {L : Int → Int} (g : gWk m w s n k L e) : jq sc 2 jm_X12_isBare [.ref 45, .int (jI w)] (jh m r T) (jP (some (.int (jI (jb (gBr n L e))))) (jh m r T)) := by
  have gl := fLo_c s
  have gs := g.1.2
  have gn := fS_n gs
  have gc := fC_i gs g.2.2.2.2.2
  have hw := g.2.1
  have ge := g.2.2.2.1
  have gk : 2 ≤ k ∧ k ≤ 5 := gs.2
  obtain ⟨q1, q2, q3, q4⟩ := g.1.1
  refine je_in jb_X12_isBare rfl (ls := [_, _, _, _]) rfl ?_
  refine je_ps jb_X12_isBare 1 (pc' := 1) (ls' := [_, _, _, _]) (st' := [_]) rfl ?_
  refine je_get jb_X12_isBare rfl (pc' := 4) rfl (jh_at (a := 45) rfl) (by rfl) (by rfl) ?_
  refine je_ps jb_X12_isBare 1 (pc' := 5) (ls' := [_, _, _, _]) (st' := [_, _]) rfl ?_
  refine je_iald jb_X12_isBare rfl (pc' := 6) rfl (n := 9) (f := _) (jh_at (a := 48) rfl) (by first | omega | exact (hM _ _).1 | exact (hM _ _).2) (by first | omega | exact (hM _ _).1 | exact (hM _ _).2) (by first | omega | exact (hM _ _).1 | exact (hM _ _).2) ?_
  rw [ge]
  refine je_ifne jb_X12_isBare rfl (t := 13) rfl (pc' := 9) rfl (by first | omega | exact (hM _ _).1 | exact (hM _ _).2) (by first | omega | exact (hM _ _).1 | exact (hM _ _).2) (fun c6 => ?_) (fun c6 => ?_)
  · refine je_ps jb_X12_isBare 3 (pc' := 16) (ls' := [_, _, _, _]) (st' := [_]) rfl ?_
    refine je_get jb_X12_isBare rfl (pc' := 19) rfl (jh_at (a := 45) rfl) (by rfl) (by rfl) ?_
    refine je_ps jb_X12_isBare 1 (pc' := 20) (ls' := [_, _, _, _]) (st' := []) rfl ?_
    refine je_loop (fun (v : Nat) ls σ' => ls = [.ref 45, .int (jI w), .int (jI (jb (decide (e = 0) && fAll (fun p => decide (L (p : Int) = 0)) v))), .int (jI (fLo s + (v : Int)))] ∧ σ' = jh m r T) (n.toNat) ⟨by first | (rw [decide_eq_false c6, q3, show fLo s + ((0 : Nat) : Int) = fLo s by omega]; rfl) | (rw [decide_eq_true c6, q3, show fLo s + ((0 : Nat) : Int) = fLo s by omega]; rfl), rfl⟩ (fun v hv ls σ' gv kv => ?_) (fun ls σ' gv => ?_)
    · obtain ⟨rfl, rfl⟩ := gv
      have gq := g.2.2.2.2.1.1 (v : Int)
      have gz := fAll_s (fun p => decide (L (p : Int) = 0)) v
      refine je_ps jb_X12_isBare 2 (pc' := 22) (ls' := [_, _, _, _]) (st' := [_, _]) rfl ?_
      refine je_get jb_X12_isBare rfl (pc' := 25) rfl (jh_at (a := 45) rfl) (by rfl) (by rfl) ?_
      refine je_ps jb_X12_isBare 1 (pc' := 26) (ls' := [_, _, _, _]) (st' := [_, _, _]) rfl ?_
      refine je_get jb_X12_isBare rfl (pc' := 29) rfl (jh_at (a := 45) rfl) (by rfl) (by rfl) ?_
      refine je_iadd jb_X12_isBare rfl (pc' := 30) rfl ?_
      refine je_icmpge jb_X12_isBare rfl (t := 58) rfl (pc' := 33) rfl (by first | omega | exact (hM _ _).1 | exact (hM _ _).2) (by first | omega | exact (hM _ _).1 | exact (hM _ _).2) (by first | omega | exact (hM _ _).1 | exact (hM _ _).2) (by first | omega | exact (hM _ _).1 | exact (hM _ _).2) (fun c30 => ?_) (fun c30 => ?_)
      · first | (exfalso; omega) | (cases c30; done) | (exfalso; simp_all; done)
      · refine je_ps jb_X12_isBare 1 (pc' := 34) (ls' := [_, _, _, _]) (st' := [_]) rfl ?_
        refine je_ifeqb jb_X12_isBare rfl (t := 50) rfl (pc' := 37) rfl (fun c34 => ?_) (fun c34 => ?_)
        · refine je_ps jb_X12_isBare 2 (pc' := 52) (ls' := [_, _, _, _]) (st' := []) rfl ?_
          refine je_iinc jb_X12_isBare rfl (pc' := 55) rfl rfl (ls' := [_, _, _, _]) rfl ?_
          refine je_ps jb_X12_isBare 1 (pc' := 20) (ls' := [_, _, _, _]) (st' := []) rfl ?_
          refine kv _ _ ⟨?_, rfl⟩
          rw [gz, ← Bool.and_assoc, show fLo s + ((v + 1 : Nat) : Int) = fLo s + (v : Int) + 1 by omega]
          first | (rw [c34]; rfl) | (rw [c34, decide_eq_true (by omega)]; rfl) | (rw [c34, decide_eq_false (by omega)]; rfl)
        · refine je_ps jb_X12_isBare 3 (pc' := 40) (ls' := [_, _, _, _]) (st' := [_, _, _]) rfl ?_
          refine je_cvP' jb_X12_isBare rfl (pc' := 43) rfl (jh_at (a := 45) rfl) (by rfl) (by first | decide | exact Nat.ble_eq_true_of_le (by omega)) (k_gat g (by unfold fC; omega)) (st' := [_]) rfl ?_
          rw [show fLo s + (v : Int) - fLo s = (v : Int) by omega]
          refine je_ifne jb_X12_isBare rfl (t := 50) rfl (pc' := 46) rfl (by first | omega | exact (hM _ _).1 | exact (hM _ _).2) (by first | omega | exact (hM _ _).1 | exact (hM _ _).2) (fun c43 => ?_) (fun c43 => ?_)
          · refine je_ps jb_X12_isBare 2 (pc' := 52) (ls' := [_, _, _, _]) (st' := []) rfl ?_
            refine je_iinc jb_X12_isBare rfl (pc' := 55) rfl rfl (ls' := [_, _, _, _]) rfl ?_
            refine je_ps jb_X12_isBare 1 (pc' := 20) (ls' := [_, _, _, _]) (st' := []) rfl ?_
            refine kv _ _ ⟨?_, rfl⟩
            rw [gz, ← Bool.and_assoc, show fLo s + ((v + 1 : Nat) : Int) = fLo s + (v : Int) + 1 by omega]
            first | (rw [c34]; rfl) | (rw [c34, decide_eq_true (by omega)]; rfl) | (rw [c34, decide_eq_false (by omega)]; rfl)
          · refine je_ps jb_X12_isBare 3 (pc' := 52) (ls' := [_, _, _, _]) (st' := []) rfl ?_
            refine je_iinc jb_X12_isBare rfl (pc' := 55) rfl rfl (ls' := [_, _, _, _]) rfl ?_
            refine je_ps jb_X12_isBare 1 (pc' := 20) (ls' := [_, _, _, _]) (st' := []) rfl ?_
            refine kv _ _ ⟨?_, rfl⟩
            rw [gz, ← Bool.and_assoc, show fLo s + ((v + 1 : Nat) : Int) = fLo s + (v : Int) + 1 by omega]
            first | (rw [c34]; rfl) | (rw [c34, decide_eq_true (by omega)]; rfl) | (rw [c34, decide_eq_false (by omega)]; rfl)
    · obtain ⟨rfl, rfl⟩ := gv
      refine je_ps jb_X12_isBare 2 (pc' := 22) (ls' := [_, _, _, _]) (st' := [_, _]) rfl ?_
      refine je_get jb_X12_isBare rfl (pc' := 25) rfl (jh_at (a := 45) rfl) (by rfl) (by rfl) ?_
      refine je_ps jb_X12_isBare 1 (pc' := 26) (ls' := [_, _, _, _]) (st' := [_, _, _]) rfl ?_
      refine je_get jb_X12_isBare rfl (pc' := 29) rfl (jh_at (a := 45) rfl) (by rfl) (by rfl) ?_
      refine je_iadd jb_X12_isBare rfl (pc' := 30) rfl ?_
      refine je_icmpge jb_X12_isBare rfl (t := 58) rfl (pc' := 33) rfl (by first | omega | exact (hM _ _).1 | exact (hM _ _).2) (by first | omega | exact (hM _ _).1 | exact (hM _ _).2) (by first | omega | exact (hM _ _).1 | exact (hM _ _).2) (by first | omega | exact (hM _ _).1 | exact (hM _ _).2) (fun c30 => ?_) (fun c30 => ?_)
      · refine je_ps jb_X12_isBare 1 (pc' := 59) (ls' := [_, _, _, _]) (st' := [_]) rfl ?_
        exact je_retb jb_X12_isBare rfl ⟨rfl, rfl⟩
      · first | (exfalso; omega) | (cases c30; done) | (exfalso; simp_all; done)
  · refine je_ps jb_X12_isBare 4 (pc' := 16) (ls' := [_, _, _, _]) (st' := [_]) rfl ?_
    refine je_get jb_X12_isBare rfl (pc' := 19) rfl (jh_at (a := 45) rfl) (by rfl) (by rfl) ?_
    refine je_ps jb_X12_isBare 1 (pc' := 20) (ls' := [_, _, _, _]) (st' := []) rfl ?_
    refine je_loop (fun (v : Nat) ls σ' => ls = [.ref 45, .int (jI w), .int (jI (jb (decide (e = 0) && fAll (fun p => decide (L (p : Int) = 0)) v))), .int (jI (fLo s + (v : Int)))] ∧ σ' = jh m r T) (n.toNat) ⟨by first | (rw [decide_eq_false c6, q3, show fLo s + ((0 : Nat) : Int) = fLo s by omega]; rfl) | (rw [decide_eq_true c6, q3, show fLo s + ((0 : Nat) : Int) = fLo s by omega]; rfl), rfl⟩ (fun v hv ls σ' gv kv => ?_) (fun ls σ' gv => ?_)
    · obtain ⟨rfl, rfl⟩ := gv
      have gq := g.2.2.2.2.1.1 (v : Int)
      have gz := fAll_s (fun p => decide (L (p : Int) = 0)) v
      refine je_ps jb_X12_isBare 2 (pc' := 22) (ls' := [_, _, _, _]) (st' := [_, _]) rfl ?_
      refine je_get jb_X12_isBare rfl (pc' := 25) rfl (jh_at (a := 45) rfl) (by rfl) (by rfl) ?_
      refine je_ps jb_X12_isBare 1 (pc' := 26) (ls' := [_, _, _, _]) (st' := [_, _, _]) rfl ?_
      refine je_get jb_X12_isBare rfl (pc' := 29) rfl (jh_at (a := 45) rfl) (by rfl) (by rfl) ?_
      refine je_iadd jb_X12_isBare rfl (pc' := 30) rfl ?_
      refine je_icmpge jb_X12_isBare rfl (t := 58) rfl (pc' := 33) rfl (by first | omega | exact (hM _ _).1 | exact (hM _ _).2) (by first | omega | exact (hM _ _).1 | exact (hM _ _).2) (by first | omega | exact (hM _ _).1 | exact (hM _ _).2) (by first | omega | exact (hM _ _).1 | exact (hM _ _).2) (fun c30 => ?_) (fun c30 => ?_)
      · first | (exfalso; omega) | (cases c30; done) | (exfalso; simp_all; done)
      · refine je_ps jb_X12_isBare 1 (pc' := 34) (ls' := [_, _, _, _]) (st' := [_]) rfl ?_
        refine je_ifeqb jb_X12_isBare rfl (t := 50) rfl (pc' := 37) rfl (fun c34 => ?_) (fun c34 => ?_)
        · refine je_ps jb_X12_isBare 2 (pc' := 52) (ls' := [_, _, _, _]) (st' := []) rfl ?_
          refine je_iinc jb_X12_isBare rfl (pc' := 55) rfl rfl (ls' := [_, _, _, _]) rfl ?_
          refine je_ps jb_X12_isBare 1 (pc' := 20) (ls' := [_, _, _, _]) (st' := []) rfl ?_
          refine kv _ _ ⟨?_, rfl⟩
          rw [gz, ← Bool.and_assoc, show fLo s + ((v + 1 : Nat) : Int) = fLo s + (v : Int) + 1 by omega]
          first | (rw [c34]; rfl) | (rw [c34, decide_eq_true (by omega)]; rfl) | (rw [c34, decide_eq_false (by omega)]; rfl)
        · refine je_ps jb_X12_isBare 3 (pc' := 40) (ls' := [_, _, _, _]) (st' := [_, _, _]) rfl ?_
          refine je_cvP' jb_X12_isBare rfl (pc' := 43) rfl (jh_at (a := 45) rfl) (by rfl) (by first | decide | exact Nat.ble_eq_true_of_le (by omega)) (k_gat g (by unfold fC; omega)) (st' := [_]) rfl ?_
          rw [show fLo s + (v : Int) - fLo s = (v : Int) by omega]
          refine je_ifne jb_X12_isBare rfl (t := 50) rfl (pc' := 46) rfl (by first | omega | exact (hM _ _).1 | exact (hM _ _).2) (by first | omega | exact (hM _ _).1 | exact (hM _ _).2) (fun c43 => ?_) (fun c43 => ?_)
          · refine je_ps jb_X12_isBare 2 (pc' := 52) (ls' := [_, _, _, _]) (st' := []) rfl ?_
            refine je_iinc jb_X12_isBare rfl (pc' := 55) rfl rfl (ls' := [_, _, _, _]) rfl ?_
            refine je_ps jb_X12_isBare 1 (pc' := 20) (ls' := [_, _, _, _]) (st' := []) rfl ?_
            refine kv _ _ ⟨?_, rfl⟩
            rw [gz, ← Bool.and_assoc, show fLo s + ((v + 1 : Nat) : Int) = fLo s + (v : Int) + 1 by omega]
            first | (rw [c34]; rfl) | (rw [c34, decide_eq_true (by omega)]; rfl) | (rw [c34, decide_eq_false (by omega)]; rfl)
          · refine je_ps jb_X12_isBare 3 (pc' := 52) (ls' := [_, _, _, _]) (st' := []) rfl ?_
            refine je_iinc jb_X12_isBare rfl (pc' := 55) rfl rfl (ls' := [_, _, _, _]) rfl ?_
            refine je_ps jb_X12_isBare 1 (pc' := 20) (ls' := [_, _, _, _]) (st' := []) rfl ?_
            refine kv _ _ ⟨?_, rfl⟩
            rw [gz, ← Bool.and_assoc, show fLo s + ((v + 1 : Nat) : Int) = fLo s + (v : Int) + 1 by omega]
            first | (rw [c34]; rfl) | (rw [c34, decide_eq_true (by omega)]; rfl) | (rw [c34, decide_eq_false (by omega)]; rfl)
    · obtain ⟨rfl, rfl⟩ := gv
      refine je_ps jb_X12_isBare 2 (pc' := 22) (ls' := [_, _, _, _]) (st' := [_, _]) rfl ?_
      refine je_get jb_X12_isBare rfl (pc' := 25) rfl (jh_at (a := 45) rfl) (by rfl) (by rfl) ?_
      refine je_ps jb_X12_isBare 1 (pc' := 26) (ls' := [_, _, _, _]) (st' := [_, _, _]) rfl ?_
      refine je_get jb_X12_isBare rfl (pc' := 29) rfl (jh_at (a := 45) rfl) (by rfl) (by rfl) ?_
      refine je_iadd jb_X12_isBare rfl (pc' := 30) rfl ?_
      refine je_icmpge jb_X12_isBare rfl (t := 58) rfl (pc' := 33) rfl (by first | omega | exact (hM _ _).1 | exact (hM _ _).2) (by first | omega | exact (hM _ _).1 | exact (hM _ _).2) (by first | omega | exact (hM _ _).1 | exact (hM _ _).2) (by first | omega | exact (hM _ _).1 | exact (hM _ _).2) (fun c30 => ?_) (fun c30 => ?_)
      · refine je_ps jb_X12_isBare 1 (pc' := 59) (ls' := [_, _, _, _]) (st' := [_]) rfl ?_
        exact je_retb jb_X12_isBare rfl ⟨rfl, rfl⟩
      · first | (exfalso; omega) | (cases c30; done) | (exfalso; simp_all; done)
def fOrdM (s n k : Int) (L : Int → Int) (e : Int) : Int := fOrd s n k L e
theorem k_gorder {w s n k e : Int} {L : Int → Int} (g : gWk m w s n k L e) (h6 : w < 6) : jq sc 5 jm_X12_order [.ref 45, .int (jI w)] (jh m r T) (fun v σ => ∃ m', v = some (.int (jI (fOrd s n k L e))) ∧ σ = jh m' r T ∧ gX m m') := by
  have gs := g.1.2
  have gc := fC_i gs g.2.2.2.2.2
  have hw := g.2.1
  have ge := g.2.2.2.1
  have gss := gs
  unfold fS at gss
  obtain ⟨q1, q2, q3, q4⟩ := g.1.1
  by_cases hse : s = 0 → e = 0
  · obtain ⟨N, hN, hO, hb, hnb⟩ := ord_all gs g.2.2.2.2.1 g.2.2.2.2.2 hse
    refine je_in jb_X12_order rfl (ls := [_, _, _]) rfl ?_
    refine je_ps jb_X12_order 1 (pc' := 1) (ls' := [_, _, _]) (st' := [_]) rfl ?_
    refine je_get jb_X12_order rfl (pc' := 4) rfl (jh_at (a := 45) rfl) (by rfl) (by rfl) ?_
    refine je_ifne jb_X12_order rfl (t := 19) rfl (pc' := 7) rfl (by first | omega | exact (hM _ _).1 | exact (hM _ _).2) (by first | omega | exact (hM _ _).1 | exact (hM _ _).2) (fun c4 => ?_) (fun c4 => ?_)
    · refine je_ps jb_X12_order 3 (pc' := 23) (ls' := [_, _, _]) (st' := [_, _, _]) rfl ?_
      refine je_cvP' jb_X12_order rfl (pc' := 26) rfl (jh_at (a := 45) rfl) (by rfl) (by first | decide | exact Nat.ble_eq_true_of_le (by omega)) (k_glikens g.raw (by omega) (by omega)) (st' := []) rfl ?_
      refine je_ps jb_X12_order 2 (pc' := 28) (ls' := [_, _, _]) (st' := []) rfl ?_
      refine je_loop (fun (v : Nat) ls σ' => ∃ m1, ls = [.ref 45, .int (jI w), .int (jI ((v : Int) + 1))] ∧ σ' = jh m1 r T ∧ gX m m1 ∧ gR m1 6 (oP s n k L e v).1 (oP s n k L e v).2) (N) ⟨_, rfl, rfl, (gX.rfl' m).w (by omega) _ _, gR.w (by omega)⟩ (fun v hv ls σ' gv kv => ?_) (fun ls σ' gv => ?_)
      · obtain ⟨m1, rfl, rfl, ⟨fx, fr⟩⟩ := gv
        have ok := oP_ok gs g.2.2.2.2.1 g.2.2.2.2.2 hse v
        have gg := fx.k h6 g
        have g6 := fr.k gg.1 ok.1 ok.2.1
        have hv2 := hnb v hv
        have es := oP_s gs g.2.2.2.2.1 g.2.2.2.2.2 hse v
        refine je_ps jb_X12_order 2 (pc' := 31) (ls' := [_, _, _]) (st' := [_, _]) rfl ?_
        refine je_cvP' jb_X12_order rfl (pc' := 34) rfl (jh_at (a := 45) rfl) (by rfl) (by first | decide | exact Nat.ble_eq_true_of_le (by omega)) (k_gisBare g6) (st' := [_]) rfl ?_
        rw [hv2]
        refine je_ifneb jb_X12_order rfl (t := 61) rfl (pc' := 37) rfl (fun c34 => ?_) (fun c34 => ?_)
        · first | (exfalso; omega) | (cases c34; done) | (exfalso; simp_all; done)
        · refine je_ps jb_X12_order 4 (pc' := 43) (ls' := [_, _, _]) (st' := [_, _, _, _]) rfl ?_
          refine je_cv jb_X12_order rfl (pc' := 46) rfl (jh_at (a := 45) rfl) (by rfl) (by first | decide | exact Nat.ble_eq_true_of_le (by omega)) (k_gisTimes g6 gg (by omega) (by omega) (by omega)) ?_
          rintro _ _ ⟨L1, e1, rfl, rfl, h1⟩
          show je _ _ _ _ _ [_] _ _
          refine je_ps jb_X12_order 4 (pc' := 52) (ls' := [_, _, _]) (st' := [_, _, _]) rfl ?_
          refine je_cvP' jb_X12_order rfl (pc' := 55) rfl (jh_at (a := 45) rfl) (by rfl) (by first | decide | exact Nat.ble_eq_true_of_le (by omega)) (k_glikens (gR.w (by omega)) (by omega) (by omega)) (st' := []) rfl ?_
          refine je_iinc jb_X12_order rfl (pc' := 58) rfl rfl (ls' := [_, _, _]) rfl ?_
          refine je_ps jb_X12_order 1 (pc' := 28) (ls' := [_, _, _]) (st' := []) rfl ?_
          rw [es] at h1
          have h3 := h1 rfl
          refine kv _ _ ⟨_, rfl, rfl, (fx.w (by omega) _ _).w (by omega) _ _, ?_⟩
          rw [h3.1, h3.2]
          exact gR.w (by omega)
      · obtain ⟨m1, rfl, rfl, ⟨fx, fr⟩⟩ := gv
        have ok := oP_ok gs g.2.2.2.2.1 g.2.2.2.2.2 hse N
        have gg := fx.k h6 g
        have g6 := fr.k gg.1 ok.1 ok.2.1
        have hv2 := hb
        refine je_ps jb_X12_order 2 (pc' := 31) (ls' := [_, _, _]) (st' := [_, _]) rfl ?_
        refine je_cvP' jb_X12_order rfl (pc' := 34) rfl (jh_at (a := 45) rfl) (by rfl) (by first | decide | exact Nat.ble_eq_true_of_le (by omega)) (k_gisBare g6) (st' := [_]) rfl ?_
        rw [hv2]
        refine je_ifneb jb_X12_order rfl (t := 61) rfl (pc' := 37) rfl (fun c34 => ?_) (fun c34 => ?_)
        · refine je_ps jb_X12_order 1 (pc' := 62) (ls' := [_, _, _]) (st' := [_]) rfl ?_
          rw [hO]
          exact je_ret jb_X12_order rfl (by rfl) ⟨_, rfl, rfl, fx⟩
        · first | (exfalso; omega) | (cases c34; done) | (exfalso; simp_all; done)
    · refine je_ps jb_X12_order 1 (pc' := 8) (ls' := [_, _, _]) (st' := [_]) rfl ?_
      refine je_get jb_X12_order rfl (pc' := 11) rfl (jh_at (a := 45) rfl) (by rfl) (by rfl) ?_
      refine je_ps jb_X12_order 1 (pc' := 12) (ls' := [_, _, _]) (st' := [_, _]) rfl ?_
      refine je_iald jb_X12_order rfl (pc' := 13) rfl (n := 9) (f := _) (jh_at (a := 48) rfl) (by first | omega | exact (hM _ _).1 | exact (hM _ _).2) (by first | omega | exact (hM _ _).1 | exact (hM _ _).2) (by first | omega | exact (hM _ _).1 | exact (hM _ _).2) ?_
      rw [ge]
      refine je_ifeq jb_X12_order rfl (t := 19) rfl (pc' := 16) rfl (by first | omega | exact (hM _ _).1 | exact (hM _ _).2) (by first | omega | exact (hM _ _).1 | exact (hM _ _).2) (fun c13 => ?_) (fun c13 => ?_)
      · refine je_ps jb_X12_order 3 (pc' := 23) (ls' := [_, _, _]) (st' := [_, _, _]) rfl ?_
        refine je_cvP' jb_X12_order rfl (pc' := 26) rfl (jh_at (a := 45) rfl) (by rfl) (by first | decide | exact Nat.ble_eq_true_of_le (by omega)) (k_glikens g.raw (by omega) (by omega)) (st' := []) rfl ?_
        refine je_ps jb_X12_order 2 (pc' := 28) (ls' := [_, _, _]) (st' := []) rfl ?_
        refine je_loop (fun (v : Nat) ls σ' => ∃ m1, ls = [.ref 45, .int (jI w), .int (jI ((v : Int) + 1))] ∧ σ' = jh m1 r T ∧ gX m m1 ∧ gR m1 6 (oP s n k L e v).1 (oP s n k L e v).2) (N) ⟨_, rfl, rfl, (gX.rfl' m).w (by omega) _ _, gR.w (by omega)⟩ (fun v hv ls σ' gv kv => ?_) (fun ls σ' gv => ?_)
        · obtain ⟨m1, rfl, rfl, ⟨fx, fr⟩⟩ := gv
          have ok := oP_ok gs g.2.2.2.2.1 g.2.2.2.2.2 hse v
          have gg := fx.k h6 g
          have g6 := fr.k gg.1 ok.1 ok.2.1
          have hv2 := hnb v hv
          have es := oP_s gs g.2.2.2.2.1 g.2.2.2.2.2 hse v
          refine je_ps jb_X12_order 2 (pc' := 31) (ls' := [_, _, _]) (st' := [_, _]) rfl ?_
          refine je_cvP' jb_X12_order rfl (pc' := 34) rfl (jh_at (a := 45) rfl) (by rfl) (by first | decide | exact Nat.ble_eq_true_of_le (by omega)) (k_gisBare g6) (st' := [_]) rfl ?_
          rw [hv2]
          refine je_ifneb jb_X12_order rfl (t := 61) rfl (pc' := 37) rfl (fun c34 => ?_) (fun c34 => ?_)
          · first | (exfalso; omega) | (cases c34; done) | (exfalso; simp_all; done)
          · refine je_ps jb_X12_order 4 (pc' := 43) (ls' := [_, _, _]) (st' := [_, _, _, _]) rfl ?_
            refine je_cv jb_X12_order rfl (pc' := 46) rfl (jh_at (a := 45) rfl) (by rfl) (by first | decide | exact Nat.ble_eq_true_of_le (by omega)) (k_gisTimes g6 gg (by omega) (by omega) (by omega)) ?_
            rintro _ _ ⟨L1, e1, rfl, rfl, h1⟩
            show je _ _ _ _ _ [_] _ _
            refine je_ps jb_X12_order 4 (pc' := 52) (ls' := [_, _, _]) (st' := [_, _, _]) rfl ?_
            refine je_cvP' jb_X12_order rfl (pc' := 55) rfl (jh_at (a := 45) rfl) (by rfl) (by first | decide | exact Nat.ble_eq_true_of_le (by omega)) (k_glikens (gR.w (by omega)) (by omega) (by omega)) (st' := []) rfl ?_
            refine je_iinc jb_X12_order rfl (pc' := 58) rfl rfl (ls' := [_, _, _]) rfl ?_
            refine je_ps jb_X12_order 1 (pc' := 28) (ls' := [_, _, _]) (st' := []) rfl ?_
            rw [es] at h1
            have h3 := h1 rfl
            refine kv _ _ ⟨_, rfl, rfl, (fx.w (by omega) _ _).w (by omega) _ _, ?_⟩
            rw [h3.1, h3.2]
            exact gR.w (by omega)
        · obtain ⟨m1, rfl, rfl, ⟨fx, fr⟩⟩ := gv
          have ok := oP_ok gs g.2.2.2.2.1 g.2.2.2.2.2 hse N
          have gg := fx.k h6 g
          have g6 := fr.k gg.1 ok.1 ok.2.1
          have hv2 := hb
          refine je_ps jb_X12_order 2 (pc' := 31) (ls' := [_, _, _]) (st' := [_, _]) rfl ?_
          refine je_cvP' jb_X12_order rfl (pc' := 34) rfl (jh_at (a := 45) rfl) (by rfl) (by first | decide | exact Nat.ble_eq_true_of_le (by omega)) (k_gisBare g6) (st' := [_]) rfl ?_
          rw [hv2]
          refine je_ifneb jb_X12_order rfl (t := 61) rfl (pc' := 37) rfl (fun c34 => ?_) (fun c34 => ?_)
          · refine je_ps jb_X12_order 1 (pc' := 62) (ls' := [_, _, _]) (st' := [_]) rfl ?_
            rw [hO]
            exact je_ret jb_X12_order rfl (by rfl) ⟨_, rfl, rfl, fx⟩
          · first | (exfalso; omega) | (cases c34; done) | (exfalso; simp_all; done)
      · exfalso; have := hse (by omega); omega
  · have hs : s = 0 := by
      by_cases h : s = 0
      · exact h
      · exact absurd (fun q => absurd q h) hse
    have he : e ≠ 0 := fun q => hse (fun _ => q)
    have ho : fOrd s n k L e = -9 := by
      unfold fOrd
      rw [if_pos ⟨hs, he⟩]
    rw [ho]
    refine je_in jb_X12_order rfl (ls := [_, _, _]) rfl ?_
    refine je_ps jb_X12_order 1 (pc' := 1) (ls' := [_, _, _]) (st' := [_]) rfl ?_
    refine je_get jb_X12_order rfl (pc' := 4) rfl (jh_at (a := 45) rfl) (by rfl) (by rfl) ?_
    refine je_ifne jb_X12_order rfl (t := 19) rfl (pc' := 7) rfl (by first | omega | exact (hM _ _).1 | exact (hM _ _).2) (by first | omega | exact (hM _ _).1 | exact (hM _ _).2) (fun c4 => ?_) (fun c4 => ?_)
    · exfalso; omega
    · refine je_ps jb_X12_order 1 (pc' := 8) (ls' := [_, _, _]) (st' := [_]) rfl ?_
      refine je_get jb_X12_order rfl (pc' := 11) rfl (jh_at (a := 45) rfl) (by rfl) (by rfl) ?_
      refine je_ps jb_X12_order 1 (pc' := 12) (ls' := [_, _, _]) (st' := [_, _]) rfl ?_
      refine je_iald jb_X12_order rfl (pc' := 13) rfl (n := 9) (f := _) (jh_at (a := 48) rfl) (by first | omega | exact (hM _ _).1 | exact (hM _ _).2) (by first | omega | exact (hM _ _).1 | exact (hM _ _).2) (by first | omega | exact (hM _ _).1 | exact (hM _ _).2) ?_
      rw [ge]
      refine je_ifeq jb_X12_order rfl (t := 19) rfl (pc' := 16) rfl (by first | omega | exact (hM _ _).1 | exact (hM _ _).2) (by first | omega | exact (hM _ _).1 | exact (hM _ _).2) (fun c13 => ?_) (fun c13 => ?_)
      · exfalso; omega
      · refine je_ps jb_X12_order 1 (pc' := 18) (ls' := [_, _, _]) (st' := [_]) rfl ?_
        exact je_ret jb_X12_order rfl (by rfl) ⟨_, rfl, rfl, gX.rfl' m⟩
/-- what is due -/
def gDu (m : Nat → Int → Int) (n : Int) (L : Int → Int) : Prop := ∀ p : Int, 0 ≤ p → p < n → m 51 p = L p
theorem k_gdues {w s n k e : Int} {L : Int → Int} (g : gWk m w s n k L e) : jq sc 1 jm_X12_dues [.ref 45, .int (jI w)] (jh m r T) (jP none (jh (jU m 51 (jF (m 51) L n)) r T)) := by
  have gs := g.1.2
  have gn := fS_n gs
  have hw := g.2.1
  obtain ⟨q1, q2, q3, q4⟩ := g.1.1
  have hL := g.2.2.1
  refine je_in jb_X12_dues rfl (ls := [_, _, _]) rfl ?_
  refine je_ps jb_X12_dues 2 (pc' := 2) (ls' := [_, _, _]) (st' := []) rfl ?_
  refine je_loop (fun (v : Nat) ls σ' => ls = [.ref 45, .int (jI w), .int (jI v)] ∧ σ' = jh (jU m 51 (jF (m 51) L v)) r T) (n.toNat) ⟨rfl, jh_eq (by rw [show ((0 : Nat) : Int) = 0 from rfl, jF_0, jU_self])⟩ (fun v hv ls σ' gv kv => ?_) (fun ls σ' gv => ?_)
  · obtain ⟨rfl, rfl⟩ := gv
    have gv := hL (v : Int) (by omega) (by omega)
    rw [← jU_ne (m := m) (a := 51) (b := 47) (f := jF (m 51) L v) (by decide)] at gv
    rw [← jU_ne (m := m) (a := 51) (b := 45) (f := jF (m 51) L v) (by decide)] at q2
    refine je_ps jb_X12_dues 2 (pc' := 4) (ls' := [_, _, _]) (st' := [_, _]) rfl ?_
    refine je_get jb_X12_dues rfl (pc' := 7) rfl (jh_at (a := 45) rfl) (by rfl) (by rfl) ?_
    refine je_icmpge jb_X12_dues rfl (t := 33) rfl (pc' := 10) rfl (by first | omega | exact (hM _ _).1 | exact (hM _ _).2) (by first | omega | exact (hM _ _).1 | exact (hM _ _).2) (by first | omega | exact (hM _ _).1 | exact (hM _ _).2) (by first | omega | exact (hM _ _).1 | exact (hM _ _).2) (fun c7 => ?_) (fun c7 => ?_)
    · first | (exfalso; omega) | (cases c7; done) | (exfalso; simp_all; done)
    · refine je_ps jb_X12_dues 1 (pc' := 11) (ls' := [_, _, _]) (st' := [_]) rfl ?_
      refine je_get jb_X12_dues rfl (pc' := 14) rfl (jh_at (a := 45) rfl) (by rfl) (by rfl) ?_
      refine je_ps jb_X12_dues 2 (pc' := 16) (ls' := [_, _, _]) (st' := [_, _, _]) rfl ?_
      refine je_get jb_X12_dues rfl (pc' := 19) rfl (jh_at (a := 45) rfl) (by rfl) (by rfl) ?_
      refine je_ps jb_X12_dues 2 (pc' := 22) (ls' := [_, _, _]) (st' := [_, _, _, _, _]) rfl ?_
      refine je_imul jb_X12_dues rfl (pc' := 23) rfl ?_
      refine je_ps jb_X12_dues 1 (pc' := 24) (ls' := [_, _, _]) (st' := [_, _, _, _, _]) rfl ?_
      refine je_iadd jb_X12_dues rfl (pc' := 25) rfl ?_
      refine je_iald jb_X12_dues rfl (pc' := 26) rfl (n := 225) (f := _) (jh_at (a := 47) rfl) (by first | omega | exact (hM _ _).1 | exact (hM _ _).2) (by first | omega | exact (hM _ _).1 | exact (hM _ _).2) (by first | omega | exact (hM _ _).1 | exact (hM _ _).2) ?_
      refine je_iastI jb_X12_dues rfl (pc' := 27) rfl (n := 25) (a := 51) rfl (fun _ => rfl) (by first | omega | exact (hM _ _).1 | exact (hM _ _).2) (by first | omega | exact (hM _ _).1 | exact (hM _ _).2) (by first | omega | exact (hM _ _).1 | exact (hM _ _).2) ?_
      refine je_iinc jb_X12_dues rfl (pc' := 30) rfl rfl (ls' := [_, _, _]) rfl ?_
      refine je_ps jb_X12_dues 1 (pc' := 2) (ls' := [_, _, _]) (st' := []) rfl ?_
      refine kv _ _ ⟨rfl, jh_eq ?_⟩
      rw [gv, jU_same, jU_jU, jF_s _ L _ (by omega)]
      rfl
  · obtain ⟨rfl, rfl⟩ := gv
    rw [← jU_ne (m := m) (a := 51) (b := 45) (f := jF (m 51) L n.toNat) (by decide)] at q2
    refine je_ps jb_X12_dues 2 (pc' := 4) (ls' := [_, _, _]) (st' := [_, _]) rfl ?_
    refine je_get jb_X12_dues rfl (pc' := 7) rfl (jh_at (a := 45) rfl) (by rfl) (by rfl) ?_
    refine je_icmpge jb_X12_dues rfl (t := 33) rfl (pc' := 10) rfl (by first | omega | exact (hM _ _).1 | exact (hM _ _).2) (by first | omega | exact (hM _ _).1 | exact (hM _ _).2) (by first | omega | exact (hM _ _).1 | exact (hM _ _).2) (by first | omega | exact (hM _ _).1 | exact (hM _ _).2) (fun c7 => ?_) (fun c7 => ?_)
    · exact je_ret jb_X12_dues rfl (by rfl) ⟨rfl, jh_eq (by rw [show ((n.toNat : Nat) : Int) = n by omega])⟩
    · first | (exfalso; omega) | (cases c7; done) | (exfalso; simp_all; done)
theorem gDu_is (m : Nat → Int → Int) (n : Int) (L : Int → Int) : gDu (jU m 51 (jF (m 51) L n)) n L := by
  intro p h0 h1
  rw [jU_same]
  unfold jF
  rw [if_pos ⟨h0, h1⟩]
theorem fTn_n {n k : Int} {L : Int → Int} (hL : fL n k L) (hn : 0 ≤ n ∧ n ≤ 25) (hk : 0 < k) : fTn k L = fSum (fun p => min (L p) (k - L p)) n.toNat := by
  unfold fTn
  have e : n.toNat + (25 - n.toNat) = 25 := by omega
  rw [← e]
  refine fSum_more _ (fun p h1 h2 => ?_)
  rw [hL.2 p (by omega)]
  omega
theorem k_gturns {s n k : Int} {L : Int → Int} (g : gSt m s n k) (hd : gDu m n L) (hL : fL n k L) : jq sc 1 jm_X12_turns [.ref 45] (jh m r T) (jP (some (.int (jI (fTn k L)))) (jh m r T)) := by
  have gn := fS_n g.2
  have gk : 2 ≤ k ∧ k ≤ 5 := g.2.2
  obtain ⟨q1, q2, q3, q4⟩ := g.1
  rw [fTn_n hL (by omega) (by omega)]
  refine je_in jb_X12_turns rfl (ls := [_, _, _]) rfl ?_
  refine je_ps jb_X12_turns 4 (pc' := 4) (ls' := [_, _, _]) (st' := []) rfl ?_
  refine je_loop (fun (v : Nat) ls σ' => ls = [.ref 45, .int (jI (fSum (fun p => min (L p) (k - L p)) v)), .int (jI v)] ∧ σ' = jh m r T) (n.toNat) ⟨rfl, rfl⟩ (fun v hv ls σ' gv kv => ?_) (fun ls σ' gv => ?_)
  · obtain ⟨rfl, rfl⟩ := gv
    have gq := hL.1 (v : Int)
    have gv := hd (v : Int) (by omega) (by omega)
    refine je_ps jb_X12_turns 2 (pc' := 6) (ls' := [_, _, _]) (st' := [_, _]) rfl ?_
    refine je_get jb_X12_turns rfl (pc' := 9) rfl (jh_at (a := 45) rfl) (by rfl) (by rfl) ?_
    refine je_icmpge jb_X12_turns rfl (t := 41) rfl (pc' := 12) rfl (by first | omega | exact (hM _ _).1 | exact (hM _ _).2) (by first | omega | exact (hM _ _).1 | exact (hM _ _).2) (by first | omega | exact (hM _ _).1 | exact (hM _ _).2) (by first | omega | exact (hM _ _).1 | exact (hM _ _).2) (fun c9 => ?_) (fun c9 => ?_)
    · first | (exfalso; omega) | (cases c9; done) | (exfalso; simp_all; done)
    · refine je_ps jb_X12_turns 2 (pc' := 14) (ls' := [_, _, _]) (st' := [_, _]) rfl ?_
      refine je_get jb_X12_turns rfl (pc' := 17) rfl (jh_at (a := 45) rfl) (by rfl) (by rfl) ?_
      refine je_ps jb_X12_turns 1 (pc' := 18) (ls' := [_, _, _]) (st' := [_, _, _]) rfl ?_
      refine je_iald jb_X12_turns rfl (pc' := 19) rfl (n := 25) (f := _) (jh_at (a := 51) rfl) (by first | omega | exact (hM _ _).1 | exact (hM _ _).2) (by first | omega | exact (hM _ _).1 | exact (hM _ _).2) (by first | omega | exact (hM _ _).1 | exact (hM _ _).2) ?_
      refine je_ps jb_X12_turns 1 (pc' := 20) (ls' := [_, _, _]) (st' := [_, _, _]) rfl ?_
      refine je_get jb_X12_turns rfl (pc' := 23) rfl (jh_at (a := 45) rfl) (by rfl) (by rfl) ?_
      refine je_ps jb_X12_turns 1 (pc' := 24) (ls' := [_, _, _]) (st' := [_, _, _, _]) rfl ?_
      refine je_get jb_X12_turns rfl (pc' := 27) rfl (jh_at (a := 45) rfl) (by rfl) (by rfl) ?_
      refine je_ps jb_X12_turns 1 (pc' := 28) (ls' := [_, _, _]) (st' := [_, _, _, _, _]) rfl ?_
      refine je_iald jb_X12_turns rfl (pc' := 29) rfl (n := 25) (f := _) (jh_at (a := 51) rfl) (by first | omega | exact (hM _ _).1 | exact (hM _ _).2) (by first | omega | exact (hM _ _).1 | exact (hM _ _).2) (by first | omega | exact (hM _ _).1 | exact (hM _ _).2) ?_
      refine je_isub jb_X12_turns rfl (pc' := 30) rfl ?_
      refine je_min jb_X12_turns rfl (pc' := 33) rfl rfl rfl (by first | omega | exact (hM _ _).1 | exact (hM _ _).2) (by first | omega | exact (hM _ _).1 | exact (hM _ _).2) (by first | omega | exact (hM _ _).1 | exact (hM _ _).2) (by first | omega | exact (hM _ _).1 | exact (hM _ _).2) ?_
      refine je_iadd jb_X12_turns rfl (pc' := 34) rfl ?_
      refine je_ps jb_X12_turns 1 (pc' := 35) (ls' := [_, _, _]) (st' := []) rfl ?_
      refine je_iinc jb_X12_turns rfl (pc' := 38) rfl rfl (ls' := [_, _, _]) rfl ?_
      refine je_ps jb_X12_turns 1 (pc' := 4) (ls' := [_, _, _]) (st' := []) rfl ?_
      refine kv _ _ ⟨?_, rfl⟩
      rw [gv, q4]
      rfl
  · obtain ⟨rfl, rfl⟩ := gv
    refine je_ps jb_X12_turns 2 (pc' := 6) (ls' := [_, _, _]) (st' := [_, _]) rfl ?_
    refine je_get jb_X12_turns rfl (pc' := 9) rfl (jh_at (a := 45) rfl) (by rfl) (by rfl) ?_
    refine je_icmpge jb_X12_turns rfl (t := 41) rfl (pc' := 12) rfl (by first | omega | exact (hM _ _).1 | exact (hM _ _).2) (by first | omega | exact (hM _ _).1 | exact (hM _ _).2) (by first | omega | exact (hM _ _).1 | exact (hM _ _).2) (by first | omega | exact (hM _ _).1 | exact (hM _ _).2) (fun c9 => ?_) (fun c9 => ?_)
    · refine je_ps jb_X12_turns 1 (pc' := 42) (ls' := [_, _, _]) (st' := [_]) rfl ?_
      exact je_ret jb_X12_turns rfl (by rfl) ⟨by (first | rfl | (refine jv_t ?_; simp only [decide_eq_true_eq]; omega) | (refine jv_f ?_; simp only [decide_eq_false_iff_not]; omega) | (refine jv_I ?_; omega)), by (first | rfl | (refine jv_t ?_; simp only [decide_eq_true_eq]; omega) | (refine jv_f ?_; simp only [decide_eq_false_iff_not]; omega) | (refine jv_I ?_; omega))⟩
    · first | (exfalso; omega) | (cases c9; done) | (exfalso; simp_all; done)
theorem fLit_n {n k : Int} {L : Int → Int} (hL : fL n k L) (hn : 0 ≤ n ∧ n ≤ 25) : fLit L = fSum (fun p => if 0 < L p then 1 else 0) n.toNat := by
  unfold fLit
  have e : n.toNat + (25 - n.toNat) = 25 := by omega
  rw [← e]
  refine fSum_more _ (fun p h1 h2 => ?_)
  rw [hL.2 p (by omega)]
  rfl
theorem k_glit {w s n k e : Int} {L : Int → Int} (g : gWk m w s n k L e) : jq sc 2 jm_X12_lit [.ref 45, .int (jI w)] (jh m r T) (jP (some (.int (jI (fLit L)))) (jh m r T)) := by
  have gl := fLo_c s
  have gs := g.1.2
  have gn := fS_n gs
  have gk : 2 ≤ k ∧ k ≤ 5 := gs.2
  obtain ⟨q1, q2, q3, q4⟩ := g.1.1
  rw [fLit_n g.2.2.2.2.1 (by omega)]
  refine je_in jb_X12_lit rfl (ls := [_, _, _, _]) rfl ?_
  refine je_ps jb_X12_lit 3 (pc' := 3) (ls' := [_, _, _, _]) (st' := [_]) rfl ?_
  refine je_get jb_X12_lit rfl (pc' := 6) rfl (jh_at (a := 45) rfl) (by rfl) (by rfl) ?_
  refine je_ps jb_X12_lit 1 (pc' := 7) (ls' := [_, _, _, _]) (st' := []) rfl ?_
  refine je_loop (fun (v : Nat) ls σ' => ls = [.ref 45, .int (jI w), .int (jI (fSum (fun p => if 0 < L p then 1 else 0) v)), .int (jI (fLo s + (v : Int)))] ∧ σ' = jh m r T) (n.toNat) ⟨by rw [q3, show fLo s + ((0 : Nat) : Int) = fLo s by omega]; rfl, rfl⟩ (fun v hv ls σ' gv kv => ?_) (fun ls σ' gv => ?_)
  · obtain ⟨rfl, rfl⟩ := gv
    have gq := g.2.2.2.2.1.1 (v : Int)
    have gz : fSum (fun p => if 0 < L p then 1 else 0) (v + 1) = fSum (fun p => if 0 < L p then 1 else 0) v + (if 0 < L (v : Int) then 1 else 0) := rfl
    refine je_ps jb_X12_lit 2 (pc' := 9) (ls' := [_, _, _, _]) (st' := [_, _]) rfl ?_
    refine je_get jb_X12_lit rfl (pc' := 12) rfl (jh_at (a := 45) rfl) (by rfl) (by rfl) ?_
    refine je_ps jb_X12_lit 1 (pc' := 13) (ls' := [_, _, _, _]) (st' := [_, _, _]) rfl ?_
    refine je_get jb_X12_lit rfl (pc' := 16) rfl (jh_at (a := 45) rfl) (by rfl) (by rfl) ?_
    refine je_iadd jb_X12_lit rfl (pc' := 17) rfl ?_
    refine je_icmpge jb_X12_lit rfl (t := 43) rfl (pc' := 20) rfl (by first | omega | exact (hM _ _).1 | exact (hM _ _).2) (by first | omega | exact (hM _ _).1 | exact (hM _ _).2) (by first | omega | exact (hM _ _).1 | exact (hM _ _).2) (by first | omega | exact (hM _ _).1 | exact (hM _ _).2) (fun c17 => ?_) (fun c17 => ?_)
    · first | (exfalso; omega) | (cases c17; done) | (exfalso; simp_all; done)
    · refine je_ps jb_X12_lit 4 (pc' := 24) (ls' := [_, _, _, _]) (st' := [_, _, _, _]) rfl ?_
      refine je_cvP' jb_X12_lit rfl (pc' := 27) rfl (jh_at (a := 45) rfl) (by rfl) (by first | decide | exact Nat.ble_eq_true_of_le (by omega)) (k_gat g (by unfold fC; omega)) (st' := [_, _]) rfl ?_
      rw [show fLo s + (v : Int) - fLo s = (v : Int) by omega]
      refine je_ifle jb_X12_lit rfl (t := 34) rfl (pc' := 30) rfl (by first | omega | exact (hM _ _).1 | exact (hM _ _).2) (by first | omega | exact (hM _ _).1 | exact (hM _ _).2) (fun c27 => ?_) (fun c27 => ?_)
      · refine je_ps jb_X12_lit 1 (pc' := 35) (ls' := [_, _, _, _]) (st' := [_, _]) rfl ?_
        refine je_iadd jb_X12_lit rfl (pc' := 36) rfl ?_
        refine je_ps jb_X12_lit 1 (pc' := 37) (ls' := [_, _, _, _]) (st' := []) rfl ?_
        refine je_iinc jb_X12_lit rfl (pc' := 40) rfl rfl (ls' := [_, _, _, _]) rfl ?_
        refine je_ps jb_X12_lit 1 (pc' := 7) (ls' := [_, _, _, _]) (st' := []) rfl ?_
        refine kv _ _ ⟨?_, rfl⟩
        rw [gz, show fLo s + ((v + 1 : Nat) : Int) = fLo s + (v : Int) + 1 by omega]
        first | (rw [if_pos (by omega)]; done) | (rw [if_neg (by omega)]; done)
      · refine je_ps jb_X12_lit 2 (pc' := 35) (ls' := [_, _, _, _]) (st' := [_, _]) rfl ?_
        refine je_iadd jb_X12_lit rfl (pc' := 36) rfl ?_
        refine je_ps jb_X12_lit 1 (pc' := 37) (ls' := [_, _, _, _]) (st' := []) rfl ?_
        refine je_iinc jb_X12_lit rfl (pc' := 40) rfl rfl (ls' := [_, _, _, _]) rfl ?_
        refine je_ps jb_X12_lit 1 (pc' := 7) (ls' := [_, _, _, _]) (st' := []) rfl ?_
        refine kv _ _ ⟨?_, rfl⟩
        rw [gz, show fLo s + ((v + 1 : Nat) : Int) = fLo s + (v : Int) + 1 by omega]
        first | (rw [if_pos (by omega)]; done) | (rw [if_neg (by omega)]; done)
  · obtain ⟨rfl, rfl⟩ := gv
    refine je_ps jb_X12_lit 2 (pc' := 9) (ls' := [_, _, _, _]) (st' := [_, _]) rfl ?_
    refine je_get jb_X12_lit rfl (pc' := 12) rfl (jh_at (a := 45) rfl) (by rfl) (by rfl) ?_
    refine je_ps jb_X12_lit 1 (pc' := 13) (ls' := [_, _, _, _]) (st' := [_, _, _]) rfl ?_
    refine je_get jb_X12_lit rfl (pc' := 16) rfl (jh_at (a := 45) rfl) (by rfl) (by rfl) ?_
    refine je_iadd jb_X12_lit rfl (pc' := 17) rfl ?_
    refine je_icmpge jb_X12_lit rfl (t := 43) rfl (pc' := 20) rfl (by first | omega | exact (hM _ _).1 | exact (hM _ _).2) (by first | omega | exact (hM _ _).1 | exact (hM _ _).2) (by first | omega | exact (hM _ _).1 | exact (hM _ _).2) (by first | omega | exact (hM _ _).1 | exact (hM _ _).2) (fun c17 => ?_) (fun c17 => ?_)
    · refine je_ps jb_X12_lit 1 (pc' := 44) (ls' := [_, _, _, _]) (st' := [_]) rfl ?_
      exact je_ret jb_X12_lit rfl (by rfl) ⟨by (first | rfl | (refine jv_t ?_; simp only [decide_eq_true_eq]; omega) | (refine jv_f ?_; simp only [decide_eq_false_iff_not]; omega) | (refine jv_I ?_; omega)), by (first | rfl | (refine jv_t ?_; simp only [decide_eq_true_eq]; omega) | (refine jv_f ?_; simp only [decide_eq_false_iff_not]; omega) | (refine jv_I ?_; omega))⟩
    · first | (exfalso; omega) | (cases c17; done) | (exfalso; simp_all; done)
def gDn (s : Int) (L : Int → Int) (st : Int) : Nat → Int
  | 0 => 0
  | v + 1 => if 0 < L (v : Int) then max (gDn s L st v) (st - (fLo s + (v : Int))) else gDn s L st v
theorem gDn_low (s : Int) (L : Int → Int) (st : Int) : ∀ v, gDn s L st v = -(fLow s L st v)
  | 0 => rfl
  | v + 1 => by
    have q := gDn_low s L st v
    unfold gDn fLow
    split <;> omega
theorem fLow_n {s n k st : Int} {L : Int → Int} (hL : fL n k L) : ∀ j : Nat, fLow s L st (n.toNat + j) = fLow s L st n.toNat
  | 0 => rfl
  | j + 1 => by
    show (if 0 < L ((n.toNat + j : Nat) : Int) then _ else fLow s L st (n.toNat + j)) = _
    rw [if_neg (by rw [hL.2 _ (by omega)]; decide), fLow_n hL j]
theorem fHigh_n {s n k st : Int} {L : Int → Int} (hL : fL n k L) : ∀ j : Nat, fHigh s L st (n.toNat + j) = fHigh s L st n.toNat
  | 0 => rfl
  | j + 1 => by
    show (if 0 < L ((n.toNat + j : Nat) : Int) then _ else fHigh s L st (n.toNat + j)) = _
    rw [if_neg (by rw [hL.2 _ (by omega)]; decide), fHigh_n hL j]
theorem line_form {d u f t : Int} (hd : 0 ≤ d) (hu : 0 ≤ u) : min (2 * d + u + jabs (f + u - t)) (2 * u + d + jabs (f - d - t)) = fSt (-d) u (t - f) := by
  unfold fSt fTrip
  have h1 := jabs_c (f + u - t)
  have h2 := jabs_c (f - d - t)
  have h3 := jabs_c (-d)
  have h4 := jabs_c u
  have h5 := jabs_c (u - -d)
  have h6 := jabs_c (-d - u)
  have h7 := jabs_c (t - f - u)
  have h8 := jabs_c (t - f - -d)
  have h9 := jabs_c (u - u)
  have ha := jabs_c (-d - -d)
  by_cases q : u = 0
  · rw [if_pos q]
    by_cases q2 : -d = 0
    · rw [if_pos q2]
      omega
    · rw [if_neg q2]
      omega
  · rw [if_neg q]
    by_cases q2 : -d = 0
    · rw [if_pos q2]
      omega
    · rw [if_neg q2]
      omega
theorem k_glineTour {n k f t : Int} {L : Int → Int} (g : gSt m 0 n k) (hd : gDu m n L) (hL : fL n k L) (hf : -12 ≤ f ∧ f ≤ 12) (ht : -12 ≤ t ∧ t ≤ 12) : jq sc 1 jm_X12_lineTour [.ref 45, .int (jI f), .int (jI t)] (jh m r T) (jP (some (.int (jI (fTour 0 n L t f)))) (jh m r T)) := by
  have gn := fS_n g.2
  have gk : 2 ≤ k ∧ k ≤ 5 := g.2.2
  obtain ⟨q1, q2, q3, q4⟩ := g.1
  have e0 : fLo 0 = -12 := rfl
  have n25 : n.toNat + (25 - n.toNat) = 25 := by omega
  have hb : fTour 0 n L t f = min (2 * gDn 0 L f n.toNat + fHigh 0 L f n.toNat + jabs (f + fHigh 0 L f n.toNat - t)) (2 * fHigh 0 L f n.toNat + gDn 0 L f n.toNat + jabs (f - gDn 0 L f n.toNat - t)) := by
    have h1 := fLow_i (s := 0) (L := L) (st := f) (by omega) n.toNat (by omega)
    have h2 := fHigh_i (s := 0) (L := L) (st := f) (by omega) n.toNat (by omega)
    rw [line_form (by rw [gDn_low]; omega) h2.1, gDn_low, Int.neg_neg]
    unfold fTour
    rw [if_pos rfl, ← n25, fLow_n hL, fHigh_n hL]
  rw [hb]
  have b1 : ∀ v : Nat, v ≤ 25 → 0 ≤ gDn 0 L f v ∧ gDn 0 L f v ≤ 200 := fun v hv => by
    have := fLow_i (s := 0) (L := L) (st := f) (by omega) v hv
    rw [gDn_low]
    omega
  refine je_in jb_X12_lineTour rfl (ls := [_, _, _, _, _, _, _]) rfl ?_
  refine je_ps jb_X12_lineTour 6 (pc' := 8) (ls' := [_, _, _, _, _, _, _]) (st' := []) rfl ?_
  refine je_loop (fun (v : Nat) ls σ' => ∃ x, ls = [.ref 45, .int (jI f), .int (jI t), .int (jI (gDn 0 L f v)), .int (jI (fHigh 0 L f v)), .int (jI v), x] ∧ σ' = jh m r T) (n.toNat) ⟨_, rfl, rfl⟩ (fun v hv ls σ' gv kv => ?_) (fun ls σ' gv => ?_)
  · obtain ⟨x, rfl, rfl⟩ := gv
    have gq := hL.1 (v : Int)
    have gv := hd (v : Int) (by omega) (by omega)
    have gw := fHigh_i (s := 0) (L := L) (st := f) (by omega) v (by omega)
    have gu := b1 v (by omega)
    have gz : gDn 0 L f (v + 1) = if 0 < L (v : Int) then max (gDn 0 L f v) (f - (m 45 3 + (v : Int))) else gDn 0 L f v := by rw [q3]; rfl
    have gy : fHigh 0 L f (v + 1) = if 0 < L (v : Int) then max (fHigh 0 L f v) (m 45 3 + (v : Int) - f) else fHigh 0 L f v := by rw [q3]; rfl
    refine je_ps jb_X12_lineTour 2 (pc' := 11) (ls' := [_, _, _, _, _, _, _]) (st' := [_, _]) rfl ?_
    refine je_get jb_X12_lineTour rfl (pc' := 14) rfl (jh_at (a := 45) rfl) (by rfl) (by rfl) ?_
    refine je_icmpge jb_X12_lineTour rfl (t := 82) rfl (pc' := 17) rfl (by first | omega | exact (hM _ _).1 | exact (hM _ _).2) (by first | omega | exact (hM _ _).1 | exact (hM _ _).2) (by first | omega | exact (hM _ _).1 | exact (hM _ _).2) (by first | omega | exact (hM _ _).1 | exact (hM _ _).2) (fun c14 => ?_) (fun c14 => ?_)
    · first | (exfalso; omega) | (cases c14; done) | (exfalso; simp_all; done)
    · refine je_ps jb_X12_lineTour 1 (pc' := 18) (ls' := [_, _, _, _, _, _, _]) (st' := [_]) rfl ?_
      refine je_get jb_X12_lineTour rfl (pc' := 21) rfl (jh_at (a := 45) rfl) (by rfl) (by rfl) ?_
      refine je_ps jb_X12_lineTour 1 (pc' := 23) (ls' := [_, _, _, _, _, _, _]) (st' := [_, _]) rfl ?_
      refine je_iald jb_X12_lineTour rfl (pc' := 24) rfl (n := 25) (f := _) (jh_at (a := 51) rfl) (by first | omega | exact (hM _ _).1 | exact (hM _ _).2) (by first | omega | exact (hM _ _).1 | exact (hM _ _).2) (by first | omega | exact (hM _ _).1 | exact (hM _ _).2) ?_
      refine je_ifle jb_X12_lineTour rfl (t := 43) rfl (pc' := 27) rfl (by first | omega | exact (hM _ _).1 | exact (hM _ _).2) (by first | omega | exact (hM _ _).1 | exact (hM _ _).2) (fun c24 => ?_) (fun c24 => ?_)
      · refine je_ps jb_X12_lineTour 3 (pc' := 46) (ls' := [_, _, _, _, _, _, _]) (st' := [_]) rfl ?_
        refine je_get jb_X12_lineTour rfl (pc' := 49) rfl (jh_at (a := 45) rfl) (by rfl) (by rfl) ?_
        refine je_ps jb_X12_lineTour 1 (pc' := 51) (ls' := [_, _, _, _, _, _, _]) (st' := [_, _]) rfl ?_
        refine je_iald jb_X12_lineTour rfl (pc' := 52) rfl (n := 25) (f := _) (jh_at (a := 51) rfl) (by first | omega | exact (hM _ _).1 | exact (hM _ _).2) (by first | omega | exact (hM _ _).1 | exact (hM _ _).2) (by first | omega | exact (hM _ _).1 | exact (hM _ _).2) ?_
        refine je_ifle jb_X12_lineTour rfl (t := 72) rfl (pc' := 55) rfl (by first | omega | exact (hM _ _).1 | exact (hM _ _).2) (by first | omega | exact (hM _ _).1 | exact (hM _ _).2) (fun c52 => ?_) (fun c52 => ?_)
        · refine je_ps jb_X12_lineTour 2 (pc' := 76) (ls' := [_, _, _, _, _, _, _]) (st' := []) rfl ?_
          refine je_iinc jb_X12_lineTour rfl (pc' := 79) rfl rfl (ls' := [_, _, _, _, _, _, _]) rfl ?_
          refine je_ps jb_X12_lineTour 1 (pc' := 8) (ls' := [_, _, _, _, _, _, _]) (st' := []) rfl ?_
          first | (exfalso; omega) | (refine kv _ _ ⟨x, ?_, rfl⟩; rw [gz, gy]; first | (rw [if_pos (by omega), if_pos (by omega)]; rfl) | (rw [if_neg (by omega), if_neg (by omega)]; rfl))
        · refine je_ps jb_X12_lineTour 2 (pc' := 58) (ls' := [_, _, _, _, _, _, _]) (st' := [_, _]) rfl ?_
          refine je_get jb_X12_lineTour rfl (pc' := 61) rfl (jh_at (a := 45) rfl) (by rfl) (by rfl) ?_
          refine je_ps jb_X12_lineTour 1 (pc' := 63) (ls' := [_, _, _, _, _, _, _]) (st' := [_, _, _]) rfl ?_
          refine je_iadd jb_X12_lineTour rfl (pc' := 64) rfl ?_
          refine je_ps jb_X12_lineTour 1 (pc' := 65) (ls' := [_, _, _, _, _, _, _]) (st' := [_, _, _]) rfl ?_
          refine je_isub jb_X12_lineTour rfl (pc' := 66) rfl ?_
          refine je_max jb_X12_lineTour rfl (pc' := 69) rfl rfl rfl (by first | omega | exact (hM _ _).1 | exact (hM _ _).2) (by first | omega | exact (hM _ _).1 | exact (hM _ _).2) (by first | omega | exact (hM _ _).1 | exact (hM _ _).2) (by first | omega | exact (hM _ _).1 | exact (hM _ _).2) ?_
          refine je_ps jb_X12_lineTour 2 (pc' := 76) (ls' := [_, _, _, _, _, _, _]) (st' := []) rfl ?_
          refine je_iinc jb_X12_lineTour rfl (pc' := 79) rfl rfl (ls' := [_, _, _, _, _, _, _]) rfl ?_
          refine je_ps jb_X12_lineTour 1 (pc' := 8) (ls' := [_, _, _, _, _, _, _]) (st' := []) rfl ?_
          first | (exfalso; omega) | (refine kv _ _ ⟨x, ?_, rfl⟩; rw [gz, gy]; first | (rw [if_pos (by omega), if_pos (by omega)]; rfl) | (rw [if_neg (by omega), if_neg (by omega)]; rfl))
      · refine je_ps jb_X12_lineTour 3 (pc' := 30) (ls' := [_, _, _, _, _, _, _]) (st' := [_, _, _]) rfl ?_
        refine je_get jb_X12_lineTour rfl (pc' := 33) rfl (jh_at (a := 45) rfl) (by rfl) (by rfl) ?_
        refine je_ps jb_X12_lineTour 1 (pc' := 35) (ls' := [_, _, _, _, _, _, _]) (st' := [_, _, _, _]) rfl ?_
        refine je_iadd jb_X12_lineTour rfl (pc' := 36) rfl ?_
        refine je_isub jb_X12_lineTour rfl (pc' := 37) rfl ?_
        refine je_max jb_X12_lineTour rfl (pc' := 40) rfl rfl rfl (by first | omega | exact (hM _ _).1 | exact (hM _ _).2) (by first | omega | exact (hM _ _).1 | exact (hM _ _).2) (by first | omega | exact (hM _ _).1 | exact (hM _ _).2) (by first | omega | exact (hM _ _).1 | exact (hM _ _).2) ?_
        refine je_ps jb_X12_lineTour 3 (pc' := 46) (ls' := [_, _, _, _, _, _, _]) (st' := [_]) rfl ?_
        refine je_get jb_X12_lineTour rfl (pc' := 49) rfl (jh_at (a := 45) rfl) (by rfl) (by rfl) ?_
        refine je_ps jb_X12_lineTour 1 (pc' := 51) (ls' := [_, _, _, _, _, _, _]) (st' := [_, _]) rfl ?_
        refine je_iald jb_X12_lineTour rfl (pc' := 52) rfl (n := 25) (f := _) (jh_at (a := 51) rfl) (by first | omega | exact (hM _ _).1 | exact (hM _ _).2) (by first | omega | exact (hM _ _).1 | exact (hM _ _).2) (by first | omega | exact (hM _ _).1 | exact (hM _ _).2) ?_
        refine je_ifle jb_X12_lineTour rfl (t := 72) rfl (pc' := 55) rfl (by first | omega | exact (hM _ _).1 | exact (hM _ _).2) (by first | omega | exact (hM _ _).1 | exact (hM _ _).2) (fun c52 => ?_) (fun c52 => ?_)
        · refine je_ps jb_X12_lineTour 2 (pc' := 76) (ls' := [_, _, _, _, _, _, _]) (st' := []) rfl ?_
          refine je_iinc jb_X12_lineTour rfl (pc' := 79) rfl rfl (ls' := [_, _, _, _, _, _, _]) rfl ?_
          refine je_ps jb_X12_lineTour 1 (pc' := 8) (ls' := [_, _, _, _, _, _, _]) (st' := []) rfl ?_
          first | (exfalso; omega) | (refine kv _ _ ⟨x, ?_, rfl⟩; rw [gz, gy]; first | (rw [if_pos (by omega), if_pos (by omega)]; rfl) | (rw [if_neg (by omega), if_neg (by omega)]; rfl))
        · refine je_ps jb_X12_lineTour 2 (pc' := 58) (ls' := [_, _, _, _, _, _, _]) (st' := [_, _]) rfl ?_
          refine je_get jb_X12_lineTour rfl (pc' := 61) rfl (jh_at (a := 45) rfl) (by rfl) (by rfl) ?_
          refine je_ps jb_X12_lineTour 1 (pc' := 63) (ls' := [_, _, _, _, _, _, _]) (st' := [_, _, _]) rfl ?_
          refine je_iadd jb_X12_lineTour rfl (pc' := 64) rfl ?_
          refine je_ps jb_X12_lineTour 1 (pc' := 65) (ls' := [_, _, _, _, _, _, _]) (st' := [_, _, _]) rfl ?_
          refine je_isub jb_X12_lineTour rfl (pc' := 66) rfl ?_
          refine je_max jb_X12_lineTour rfl (pc' := 69) rfl rfl rfl (by first | omega | exact (hM _ _).1 | exact (hM _ _).2) (by first | omega | exact (hM _ _).1 | exact (hM _ _).2) (by first | omega | exact (hM _ _).1 | exact (hM _ _).2) (by first | omega | exact (hM _ _).1 | exact (hM _ _).2) ?_
          refine je_ps jb_X12_lineTour 2 (pc' := 76) (ls' := [_, _, _, _, _, _, _]) (st' := []) rfl ?_
          refine je_iinc jb_X12_lineTour rfl (pc' := 79) rfl rfl (ls' := [_, _, _, _, _, _, _]) rfl ?_
          refine je_ps jb_X12_lineTour 1 (pc' := 8) (ls' := [_, _, _, _, _, _, _]) (st' := []) rfl ?_
          first | (exfalso; omega) | (refine kv _ _ ⟨x, ?_, rfl⟩; rw [gz, gy]; first | (rw [if_pos (by omega), if_pos (by omega)]; rfl) | (rw [if_neg (by omega), if_neg (by omega)]; rfl))
  · obtain ⟨x, rfl, rfl⟩ := gv
    have gw := fHigh_i (s := 0) (L := L) (st := f) (by omega) n.toNat (by omega)
    have gu := b1 n.toNat (by omega)
    have j1 := jabs_c (f + fHigh 0 L f n.toNat - t)
    have j2 := jabs_c (f - gDn 0 L f n.toNat - t)
    refine je_ps jb_X12_lineTour 2 (pc' := 11) (ls' := [_, _, _, _, _, _, _]) (st' := [_, _]) rfl ?_
    refine je_get jb_X12_lineTour rfl (pc' := 14) rfl (jh_at (a := 45) rfl) (by rfl) (by rfl) ?_
    refine je_icmpge jb_X12_lineTour rfl (t := 82) rfl (pc' := 17) rfl (by first | omega | exact (hM _ _).1 | exact (hM _ _).2) (by first | omega | exact (hM _ _).1 | exact (hM _ _).2) (by first | omega | exact (hM _ _).1 | exact (hM _ _).2) (by first | omega | exact (hM _ _).1 | exact (hM _ _).2) (fun c14 => ?_) (fun c14 => ?_)
    · refine je_ps jb_X12_lineTour 2 (pc' := 84) (ls' := [_, _, _, _, _, _, _]) (st' := [_, _]) rfl ?_
      refine je_imul jb_X12_lineTour rfl (pc' := 85) rfl ?_
      refine je_ps jb_X12_lineTour 1 (pc' := 87) (ls' := [_, _, _, _, _, _, _]) (st' := [_, _]) rfl ?_
      refine je_iadd jb_X12_lineTour rfl (pc' := 88) rfl ?_
      refine je_ps jb_X12_lineTour 2 (pc' := 91) (ls' := [_, _, _, _, _, _, _]) (st' := [_, _, _]) rfl ?_
      refine je_iadd jb_X12_lineTour rfl (pc' := 92) rfl ?_
      refine je_ps jb_X12_lineTour 1 (pc' := 93) (ls' := [_, _, _, _, _, _, _]) (st' := [_, _, _]) rfl ?_
      refine je_isub jb_X12_lineTour rfl (pc' := 94) rfl ?_
      refine je_abs jb_X12_lineTour rfl (pc' := 97) rfl rfl rfl (by first | omega | exact (hM _ _).1 | exact (hM _ _).2) (by first | omega | exact (hM _ _).1 | exact (hM _ _).2) ?_
      refine je_iadd jb_X12_lineTour rfl (pc' := 98) rfl ?_
      refine je_ps jb_X12_lineTour 3 (pc' := 103) (ls' := [_, _, _, _, _, _, _]) (st' := [_, _]) rfl ?_
      refine je_imul jb_X12_lineTour rfl (pc' := 104) rfl ?_
      refine je_ps jb_X12_lineTour 1 (pc' := 105) (ls' := [_, _, _, _, _, _, _]) (st' := [_, _]) rfl ?_
      refine je_iadd jb_X12_lineTour rfl (pc' := 106) rfl ?_
      refine je_ps jb_X12_lineTour 2 (pc' := 108) (ls' := [_, _, _, _, _, _, _]) (st' := [_, _, _]) rfl ?_
      refine je_isub jb_X12_lineTour rfl (pc' := 109) rfl ?_
      refine je_ps jb_X12_lineTour 1 (pc' := 110) (ls' := [_, _, _, _, _, _, _]) (st' := [_, _, _]) rfl ?_
      refine je_isub jb_X12_lineTour rfl (pc' := 111) rfl ?_
      refine je_abs jb_X12_lineTour rfl (pc' := 114) rfl rfl rfl (by first | omega | exact (hM _ _).1 | exact (hM _ _).2) (by first | omega | exact (hM _ _).1 | exact (hM _ _).2) ?_
      refine je_iadd jb_X12_lineTour rfl (pc' := 115) rfl ?_
      refine je_ps jb_X12_lineTour 3 (pc' := 121) (ls' := [_, _, _, _, _, _, _]) (st' := [_, _]) rfl ?_
      refine je_min jb_X12_lineTour rfl (pc' := 124) rfl rfl rfl (by first | omega | exact (hM _ _).1 | exact (hM _ _).2) (by first | omega | exact (hM _ _).1 | exact (hM _ _).2) (by first | omega | exact (hM _ _).1 | exact (hM _ _).2) (by first | omega | exact (hM _ _).1 | exact (hM _ _).2) ?_
      exact je_ret jb_X12_lineTour rfl (by rfl) ⟨by (first | rfl | (refine jv_t ?_; simp only [decide_eq_true_eq]; omega) | (refine jv_f ?_; simp only [decide_eq_false_iff_not]; omega) | (refine jv_I ?_; omega)), by (first | rfl | (refine jv_t ?_; simp only [decide_eq_true_eq]; omega) | (refine jv_f ?_; simp only [decide_eq_false_iff_not]; omega) | (refine jv_I ?_; omega))⟩
    · first | (exfalso; omega) | (cases c14; done) | (exfalso; simp_all; done)
end C40
