/-! THE OTHER SIDE: a letter done, rows bared and copied -/
section C36
variable {sc : Nat × (Nat → Int32)} {m : Nat → Int → Int} {r : Nat → Nat → Value} {T : jx_H} {σ : jx_H}
theorem gW_46 (m : Nat → Int → Int) (w : Int) (L : Int → Int) (e : Int) : gW m w L e 48 = ju (m 48) w e := by
  unfold gW
  rw [jU_same]
theorem gW_45 (m : Nat → Int → Int) (w : Int) (L : Int → Int) (e : Int) : gW m w L e 47 = gF (m 47) w L := by
  unfold gW
  rw [jU_ne (by decide), jU_same]
theorem gF_c {A : Int → Int} {w : Int} {L L' : Int → Int} (h : ∀ p : Int, 0 ≤ p → p < 25 → L p = L' p) : gF A w L = gF A w L' := by
  funext x
  unfold gF
  split
  · exact h _ (by omega) (by omega)
  · rfl
theorem gW_c {m : Nat → Int → Int} {w e : Int} {L L' : Int → Int} (h : ∀ p : Int, 0 ≤ p → p < 25 → L p = L' p) : gW m w L e = gW m w L' e := by
  unfold gW
  rw [gF_c h]
theorem gW_raw (m : Nat → Int → Int) (w : Int) : gW m w (fun p => m 47 (25 * w + p)) (m 48 w) = m := by
  unfold gW
  rw [gF_self (fun p _ _ => rfl), jU_self, ju_self, jU_self]
theorem gW_tt {m : Nat → Int → Int} {w e p x : Int} {L : Int → Int} (h0 : 0 ≤ p) (h1 : p < 25) : jU (gW m w L e) 47 (ju (gW m w L e 47) (25 * w + p) x) = gW m w (ju L p x) e := by
  rw [gW_45, gF_ju (A := gF (m 47) w L) (L := L) (fun p h0 h1 => gF_at h0 h1) h0 h1, gF_F]
  unfold gW
  rw [jU_comm (a := 48) (b := 47) (by decide), jU_jU]
theorem gW_ee (m : Nat → Int → Int) (w e e' : Int) (L : Int → Int) : jU (gW m w L e) 48 (ju (gW m w L e 48) w e') = gW m w L e' := by
  rw [gW_46, ju_ju]
  unfold gW
  rw [jU_jU]
/-- a row as it lies there, of no street -/
def gR (m : Nat → Int → Int) (w : Int) (L : Int → Int) (e : Int) : Prop := (0 ≤ w ∧ w < 9) ∧ (∀ p : Int, 0 ≤ p → p < 25 → m 47 (25 * w + p) = L p) ∧ m 48 w = e
theorem gWk.raw {w s n k e : Int} {L : Int → Int} (g : gWk m w s n k L e) : gR m w L e := ⟨g.2.1, g.2.2.1, g.2.2.2.1⟩
theorem gR.w {w e : Int} {L : Int → Int} (hw : 0 ≤ w ∧ w < 9) : gR (gW m w L e) w L e := by
  refine ⟨hw, fun p h0 h1 => ?_, ?_⟩
  · rw [gW_45, gF_at h0 h1]
  · rw [gW_46, ju_same]
theorem gR.o {w w' e : Int} {L : Int → Int} (g : gR m w L e) (h : w ≠ w') (L' : Int → Int) (e' : Int) : gR (gW m w' L' e') w L e := by
  refine ⟨g.1, fun p h0 h1 => ?_, ?_⟩
  · rw [gW_45, gF_ne h0 h1 h]
    exact g.2.1 p h0 h1
  · rw [gW_46, ju_ne h]
    exact g.2.2
theorem gR.k {w s n k e : Int} {L : Int → Int} (g : gR m w L e) (gs : gSt m s n k) (hL : fL n k L) (he : fC s n e) : gWk m w s n k L e := ⟨gs, g.1, g.2.1, g.2.2, hL, he⟩
theorem gR_self {w e : Int} {L : Int → Int} (g : gR m w L e) : gW m w L e = m := by
  unfold gW
  rw [gF_self g.2.1, jU_self, ← g.2.2, ju_self, jU_self]
theorem fTu_at {s n k e b : Int} {L : Int → Int} (he : fC s n e) : fTu s n k L e b = ju L (e - fLo s) ((L (e - fLo s) + b) % k) := by
  have h : fHas s n e = true := decide_eq_true he
  unfold fTu fPl
  rw [if_pos h, if_pos h]
theorem fGo_0 {s n k e : Int} {L : Int → Int} (he : fC s n e) : fGo s n k L e 0 = (true, ju L (e - fLo s) ((L (e - fLo s) + 1) % k), e) := by
  show (true, fTu s n k L e 1, e) = _
  rw [fTu_at he]
theorem fGo_1 {s n k e : Int} {L : Int → Int} (he : fC s n e) : fGo s n k L e 1 = (true, ju L (e - fLo s) ((L (e - fLo s) + -1) % k), e) := by
  show (true, fTu s n k L e (-1), e) = _
  rw [fTu_at he]
theorem fGo_2 {s n k e : Int} {L : Int → Int} : fGo s n k L e 2 = if fHas s n (fRe s n e 1) = true then (true, L, fRe s n e 1) else (false, L, e) := rfl
theorem fGo_3 {s n k e : Int} {L : Int → Int} : fGo s n k L e 3 = if fHas s n (fRe s n e (-1)) = true then (true, L, fRe s n e (-1)) else (false, L, e) := rfl
theorem k_gdoes {w s n k e c : Int} {L : Int → Int} (g : gWk m w s n k L e) (hc : 0 ≤ c ∧ c ≤ 3) : jq sc 3 jm_X12_does [.ref 45, .int (jI w), .int (jI c)] (jh m r T) (jP (some (.int (jI (jb (fGo s n k L e c).1)))) (jh (gW m w (fGo s n k L e c).2.1 (fGo s n k L e c).2.2) r T)) := by
  have g0 := g
  obtain ⟨gs, gw, gL, ge, hL, hC⟩ := g0
  subst ge
  have gq := hL.1 (m 48 w - fLo s)
  have gk : 2 ≤ k ∧ k ≤ 5 := gs.2.2
  have gc := fC_i gs.2 hC
  refine je_in jb_X12_does rfl (ls := [_, _, _, _]) rfl ?_
  refine je_ps jb_X12_does 2 (pc' := 2) (ls' := [_, _, _, _]) (st' := [_, _]) rfl ?_
  refine je_icmpge jb_X12_does rfl (t := 39) rfl (pc' := 5) rfl (by first | omega | exact (hM _ _).1 | exact (hM _ _).2) (by first | omega | exact (hM _ _).1 | exact (hM _ _).2) (by first | omega | exact (hM _ _).1 | exact (hM _ _).2) (by first | omega | exact (hM _ _).1 | exact (hM _ _).2) (fun c2 => ?_) (fun c2 => ?_)
  · refine je_ps jb_X12_does 2 (pc' := 41) (ls' := [_, _, _, _]) (st' := [_, _]) rfl ?_
    refine je_get jb_X12_does rfl (pc' := 44) rfl (jh_at (a := 45) rfl) (by rfl) (by rfl) ?_
    refine je_ps jb_X12_does 1 (pc' := 45) (ls' := [_, _, _, _]) (st' := [_, _, _]) rfl ?_
    refine je_iald jb_X12_does rfl (pc' := 46) rfl (n := 9) (f := _) (jh_at (a := 48) rfl) (by first | omega | exact (hM _ _).1 | exact (hM _ _).2) (by first | omega | exact (hM _ _).1 | exact (hM _ _).2) (by first | omega | exact (hM _ _).1 | exact (hM _ _).2) ?_
    refine je_ps jb_X12_does 2 (pc' := 48) (ls' := [_, _, _, _]) (st' := [_, _, _, _]) rfl ?_
    refine je_icmpne jb_X12_does rfl (t := 55) rfl (pc' := 51) rfl (by first | omega | exact (hM _ _).1 | exact (hM _ _).2) (by first | omega | exact (hM _ _).1 | exact (hM _ _).2) (by first | omega | exact (hM _ _).1 | exact (hM _ _).2) (by first | omega | exact (hM _ _).1 | exact (hM _ _).2) (fun c48 => ?_) (fun c48 => ?_)
    · refine je_ps jb_X12_does 1 (pc' := 56) (ls' := [_, _, _, _]) (st' := [_, _, _]) rfl ?_
      refine je_iadd jb_X12_does rfl (pc' := 57) rfl ?_
      refine je_cvP' jb_X12_does rfl (pc' := 60) rfl (jh_at (a := 45) rfl) (by rfl) (by first | decide | exact Nat.ble_eq_true_of_le (by omega)) (c_X12_round g.1 (by omega)) (st' := [_]) rfl ?_
      refine je_ps jb_X12_does 3 (pc' := 63) (ls' := [_, _, _, _]) (st' := [_, _]) rfl ?_
      refine je_cvP' jb_X12_does rfl (pc' := 66) rfl (jh_at (a := 45) rfl) (by rfl) (by first | decide | exact Nat.ble_eq_true_of_le (by omega)) (c_X12_isCorner g.1 (by have := fRe_i (b := 1) gs.2 (c := m 48 w) (by omega) (by omega); have := fRe_i (b := -1) gs.2 (c := m 48 w) (by omega) (by omega); simp only [fRe_Rd] at *; omega)) (st' := [_]) rfl ?_
      refine je_ifneb jb_X12_does rfl (t := 71) rfl (pc' := 69) rfl (fun c66 => ?_) (fun c66 => ?_)
      · refine je_ps jb_X12_does 1 (pc' := 72) (ls' := [_, _, _, _]) (st' := [_]) rfl ?_
        refine je_get jb_X12_does rfl (pc' := 75) rfl (jh_at (a := 45) rfl) (by rfl) (by rfl) ?_
        refine je_ps jb_X12_does 2 (pc' := 77) (ls' := [_, _, _, _]) (st' := [_, _, _]) rfl ?_
        refine je_iastI jb_X12_does rfl (pc' := 78) rfl (n := 9) (a := 48) rfl (fun _ => rfl) (by first | omega | exact (hM _ _).1 | exact (hM _ _).2) (by first | omega | exact (hM _ _).1 | exact (hM _ _).2) (by first | omega | exact (hM _ _).1 | exact (hM _ _).2) ?_
        refine je_ps jb_X12_does 1 (pc' := 79) (ls' := [_, _, _, _]) (st' := [_]) rfl ?_
        first | rw [show c = 2 by omega, fGo_2, fRe_Rd, c66] | rw [show c = 3 by omega, fGo_3, fRe_Rd, c66]
        exact je_ret jb_X12_does rfl (by rfl) ⟨rfl, jh_eq (gW_e g)⟩
      · refine je_ps jb_X12_does 1 (pc' := 70) (ls' := [_, _, _, _]) (st' := [_]) rfl ?_
        first | rw [show c = 2 by omega, fGo_2, fRe_Rd, c66] | rw [show c = 3 by omega, fGo_3, fRe_Rd, c66]
        exact je_ret jb_X12_does rfl (by rfl) ⟨rfl, jh_eq (gW_self g).symm⟩
    · refine je_ps jb_X12_does 2 (pc' := 56) (ls' := [_, _, _, _]) (st' := [_, _, _]) rfl ?_
      refine je_iadd jb_X12_does rfl (pc' := 57) rfl ?_
      refine je_cvP' jb_X12_does rfl (pc' := 60) rfl (jh_at (a := 45) rfl) (by rfl) (by first | decide | exact Nat.ble_eq_true_of_le (by omega)) (c_X12_round g.1 (by omega)) (st' := [_]) rfl ?_
      refine je_ps jb_X12_does 3 (pc' := 63) (ls' := [_, _, _, _]) (st' := [_, _]) rfl ?_
      refine je_cvP' jb_X12_does rfl (pc' := 66) rfl (jh_at (a := 45) rfl) (by rfl) (by first | decide | exact Nat.ble_eq_true_of_le (by omega)) (c_X12_isCorner g.1 (by have := fRe_i (b := 1) gs.2 (c := m 48 w) (by omega) (by omega); have := fRe_i (b := -1) gs.2 (c := m 48 w) (by omega) (by omega); simp only [fRe_Rd] at *; omega)) (st' := [_]) rfl ?_
      refine je_ifneb jb_X12_does rfl (t := 71) rfl (pc' := 69) rfl (fun c66 => ?_) (fun c66 => ?_)
      · refine je_ps jb_X12_does 1 (pc' := 72) (ls' := [_, _, _, _]) (st' := [_]) rfl ?_
        refine je_get jb_X12_does rfl (pc' := 75) rfl (jh_at (a := 45) rfl) (by rfl) (by rfl) ?_
        refine je_ps jb_X12_does 2 (pc' := 77) (ls' := [_, _, _, _]) (st' := [_, _, _]) rfl ?_
        refine je_iastI jb_X12_does rfl (pc' := 78) rfl (n := 9) (a := 48) rfl (fun _ => rfl) (by first | omega | exact (hM _ _).1 | exact (hM _ _).2) (by first | omega | exact (hM _ _).1 | exact (hM _ _).2) (by first | omega | exact (hM _ _).1 | exact (hM _ _).2) ?_
        refine je_ps jb_X12_does 1 (pc' := 79) (ls' := [_, _, _, _]) (st' := [_]) rfl ?_
        first | rw [show c = 2 by omega, fGo_2, fRe_Rd, c66] | rw [show c = 3 by omega, fGo_3, fRe_Rd, c66]
        exact je_ret jb_X12_does rfl (by rfl) ⟨rfl, jh_eq (gW_e g)⟩
      · refine je_ps jb_X12_does 1 (pc' := 70) (ls' := [_, _, _, _]) (st' := [_]) rfl ?_
        first | rw [show c = 2 by omega, fGo_2, fRe_Rd, c66] | rw [show c = 3 by omega, fGo_3, fRe_Rd, c66]
        exact je_ret jb_X12_does rfl (by rfl) ⟨rfl, jh_eq (gW_self g).symm⟩
  · refine je_ps jb_X12_does 3 (pc' := 8) (ls' := [_, _, _, _]) (st' := [_, _, _]) rfl ?_
    refine je_get jb_X12_does rfl (pc' := 11) rfl (jh_at (a := 45) rfl) (by rfl) (by rfl) ?_
    refine je_ps jb_X12_does 1 (pc' := 12) (ls' := [_, _, _, _]) (st' := [_, _, _, _]) rfl ?_
    refine je_iald jb_X12_does rfl (pc' := 13) rfl (n := 9) (f := _) (jh_at (a := 48) rfl) (by first | omega | exact (hM _ _).1 | exact (hM _ _).2) (by first | omega | exact (hM _ _).1 | exact (hM _ _).2) (by first | omega | exact (hM _ _).1 | exact (hM _ _).2) ?_
    refine je_ps jb_X12_does 3 (pc' := 16) (ls' := [_, _, _, _]) (st' := [_, _, _, _, _, _]) rfl ?_
    refine je_get jb_X12_does rfl (pc' := 19) rfl (jh_at (a := 45) rfl) (by rfl) (by rfl) ?_
    refine je_ps jb_X12_does 1 (pc' := 20) (ls' := [_, _, _, _]) (st' := [_, _, _, _, _, _, _]) rfl ?_
    refine je_iald jb_X12_does rfl (pc' := 21) rfl (n := 9) (f := _) (jh_at (a := 48) rfl) (by first | omega | exact (hM _ _).1 | exact (hM _ _).2) (by first | omega | exact (hM _ _).1 | exact (hM _ _).2) (by first | omega | exact (hM _ _).1 | exact (hM _ _).2) ?_
    refine je_cvP' jb_X12_does rfl (pc' := 24) rfl (jh_at (a := 45) rfl) (by rfl) (by first | decide | exact Nat.ble_eq_true_of_le (by omega)) (k_gat g hC) (st' := [_, _, _, _]) rfl ?_
    refine je_ps jb_X12_does 1 (pc' := 25) (ls' := [_, _, _, _]) (st' := [_, _, _, _, _]) rfl ?_
    refine je_ifne jb_X12_does rfl (t := 32) rfl (pc' := 28) rfl (by first | omega | exact (hM _ _).1 | exact (hM _ _).2) (by first | omega | exact (hM _ _).1 | exact (hM _ _).2) (fun c25 => ?_) (fun c25 => ?_)
    · refine je_ps jb_X12_does 1 (pc' := 33) (ls' := [_, _, _, _]) (st' := [_, _, _, _, _]) rfl ?_
      refine je_iadd jb_X12_does rfl (pc' := 34) rfl ?_
      refine je_cvP' jb_X12_does rfl (pc' := 37) rfl (jh_at (a := 45) rfl) (by rfl) (by first | decide | exact Nat.ble_eq_true_of_le (by omega)) (k_gshows g hC (by omega)) (st' := []) rfl ?_
      refine je_ps jb_X12_does 1 (pc' := 38) (ls' := [_, _, _, _]) (st' := [_]) rfl ?_
      first | (rw [show c = 0 by omega, fGo_0 hC]; exact je_ret jb_X12_does rfl (by rfl) ⟨rfl, rfl⟩) | (rw [show c = 1 by omega, fGo_1 hC]; exact je_ret jb_X12_does rfl (by rfl) ⟨rfl, rfl⟩)
    · refine je_ps jb_X12_does 2 (pc' := 33) (ls' := [_, _, _, _]) (st' := [_, _, _, _, _]) rfl ?_
      refine je_iadd jb_X12_does rfl (pc' := 34) rfl ?_
      refine je_cvP' jb_X12_does rfl (pc' := 37) rfl (jh_at (a := 45) rfl) (by rfl) (by first | decide | exact Nat.ble_eq_true_of_le (by omega)) (k_gshows g hC (by omega)) (st' := []) rfl ?_
      refine je_ps jb_X12_does 1 (pc' := 38) (ls' := [_, _, _, _]) (st' := [_]) rfl ?_
      first | (rw [show c = 0 by omega, fGo_0 hC]; exact je_ret jb_X12_does rfl (by rfl) ⟨rfl, rfl⟩) | (rw [show c = 1 by omega, fGo_1 hC]; exact je_ret jb_X12_does rfl (by rfl) ⟨rfl, rfl⟩)
theorem k_gbares {w : Int} (hw : 0 ≤ w ∧ w < 9) : jq sc 1 jm_X12_bares [.ref 45, .int (jI w)] (jh m r T) (jP none (jh (gW m w (fun _ => 0) 0) r T)) := by
  refine je_in jb_X12_bares rfl (ls := [_, _, _]) rfl ?_
  refine je_ps jb_X12_bares 2 (pc' := 2) (ls' := [_, _, _]) (st' := []) rfl ?_
  refine je_loop (fun (v : Nat) ls σ' => ls = [.ref 45, .int (jI w), .int (jI v)] ∧ σ' = jh (gW m w (jF (fun p => m 47 (25 * w + p)) (fun _ => 0) v) (m 48 w)) r T) (25) ⟨rfl, jh_eq (by rw [show ((0 : Nat) : Int) = 0 from rfl, jF_0, gW_raw])⟩ (fun v hv ls σ' gv kv => ?_) (fun ls σ' gv => ?_)
  · obtain ⟨rfl, rfl⟩ := gv
    refine je_ps jb_X12_bares 2 (pc' := 5) (ls' := [_, _, _]) (st' := [_, _]) rfl ?_
    refine je_icmpge jb_X12_bares rfl (t := 26) rfl (pc' := 8) rfl (by first | omega | exact (hM _ _).1 | exact (hM _ _).2) (by first | omega | exact (hM _ _).1 | exact (hM _ _).2) (by first | omega | exact (hM _ _).1 | exact (hM _ _).2) (by first | omega | exact (hM _ _).1 | exact (hM _ _).2) (fun c5 => ?_) (fun c5 => ?_)
    · first | (exfalso; omega) | (cases c5; done) | (exfalso; simp_all; done)
    · refine je_ps jb_X12_bares 1 (pc' := 9) (ls' := [_, _, _]) (st' := [_]) rfl ?_
      refine je_get jb_X12_bares rfl (pc' := 12) rfl (jh_at (a := 45) rfl) (by rfl) (by rfl) ?_
      refine je_ps jb_X12_bares 2 (pc' := 15) (ls' := [_, _, _]) (st' := [_, _, _]) rfl ?_
      refine je_imul jb_X12_bares rfl (pc' := 16) rfl ?_
      refine je_ps jb_X12_bares 1 (pc' := 17) (ls' := [_, _, _]) (st' := [_, _, _]) rfl ?_
      refine je_iadd jb_X12_bares rfl (pc' := 18) rfl ?_
      refine je_ps jb_X12_bares 1 (pc' := 19) (ls' := [_, _, _]) (st' := [_, _, _]) rfl ?_
      refine je_iastI jb_X12_bares rfl (pc' := 20) rfl (n := 225) (a := 47) rfl (fun _ => rfl) (by first | omega | exact (hM _ _).1 | exact (hM _ _).2) (by first | omega | exact (hM _ _).1 | exact (hM _ _).2) (by first | omega | exact (hM _ _).1 | exact (hM _ _).2) ?_
      refine je_iinc jb_X12_bares rfl (pc' := 23) rfl rfl (ls' := [_, _, _]) rfl ?_
      refine je_ps jb_X12_bares 1 (pc' := 2) (ls' := [_, _, _]) (st' := []) rfl ?_
      exact kv _ _ ⟨rfl, jh_eq (by rw [gW_tt (by omega) (by omega), jF_s _ (fun _ => 0) _ (by omega)]; rfl)⟩
  · obtain ⟨rfl, rfl⟩ := gv
    refine je_ps jb_X12_bares 2 (pc' := 5) (ls' := [_, _, _]) (st' := [_, _]) rfl ?_
    refine je_icmpge jb_X12_bares rfl (t := 26) rfl (pc' := 8) rfl (by first | omega | exact (hM _ _).1 | exact (hM _ _).2) (by first | omega | exact (hM _ _).1 | exact (hM _ _).2) (by first | omega | exact (hM _ _).1 | exact (hM _ _).2) (by first | omega | exact (hM _ _).1 | exact (hM _ _).2) (fun c5 => ?_) (fun c5 => ?_)
    · refine je_ps jb_X12_bares 1 (pc' := 27) (ls' := [_, _, _]) (st' := [_]) rfl ?_
      refine je_get jb_X12_bares rfl (pc' := 30) rfl (jh_at (a := 45) rfl) (by rfl) (by rfl) ?_
      refine je_ps jb_X12_bares 2 (pc' := 32) (ls' := [_, _, _]) (st' := [_, _, _]) rfl ?_
      refine je_iastI jb_X12_bares rfl (pc' := 33) rfl (n := 9) (a := 48) rfl (fun _ => rfl) (by first | omega | exact (hM _ _).1 | exact (hM _ _).2) (by first | omega | exact (hM _ _).1 | exact (hM _ _).2) (by first | omega | exact (hM _ _).1 | exact (hM _ _).2) ?_
      exact je_ret jb_X12_bares rfl (by rfl) ⟨rfl, jh_eq (by rw [gW_ee]; exact gW_c (fun p h0 h1 => jF_25 _ _ p ⟨h0, h1⟩))⟩
    · first | (exfalso; omega) | (cases c5; done) | (exfalso; simp_all; done)
theorem k_glikens {w w' e : Int} {L : Int → Int} (g : gR m w L e) (hw : 0 ≤ w' ∧ w' < 9) (hne : w ≠ w') : jq sc 1 jm_X12_likens [.ref 45, .int (jI w), .int (jI w')] (jh m r T) (jP none (jh (gW m w' L e) r T)) := by
  have g0 := g
  obtain ⟨g1, g2, g3⟩ := g0
  refine je_in jb_X12_likens rfl (ls := [_, _, _, _]) rfl ?_
  refine je_ps jb_X12_likens 2 (pc' := 2) (ls' := [_, _, _, _]) (st' := []) rfl ?_
  refine je_loop (fun (v : Nat) ls σ' => ls = [.ref 45, .int (jI w), .int (jI w'), .int (jI v)] ∧ σ' = jh (gW m w' (jF (fun p => m 47 (25 * w' + p)) L v) (m 48 w')) r T) (25) ⟨rfl, jh_eq (by rw [show ((0 : Nat) : Int) = 0 from rfl, jF_0, gW_raw])⟩ (fun v hv ls σ' gv kv => ?_) (fun ls σ' gv => ?_)
  · obtain ⟨rfl, rfl⟩ := gv
    have go := g.o hne (jF (fun p => m 47 (25 * w' + p)) L v) (m 48 w')
    have gv := go.2.1 (v : Int) (by omega) (by omega)
    refine je_ps jb_X12_likens 2 (pc' := 5) (ls' := [_, _, _, _]) (st' := [_, _]) rfl ?_
    refine je_icmpge jb_X12_likens rfl (t := 36) rfl (pc' := 8) rfl (by first | omega | exact (hM _ _).1 | exact (hM _ _).2) (by first | omega | exact (hM _ _).1 | exact (hM _ _).2) (by first | omega | exact (hM _ _).1 | exact (hM _ _).2) (by first | omega | exact (hM _ _).1 | exact (hM _ _).2) (fun c5 => ?_) (fun c5 => ?_)
    · first | (exfalso; omega) | (cases c5; done) | (exfalso; simp_all; done)
    · refine je_ps jb_X12_likens 1 (pc' := 9) (ls' := [_, _, _, _]) (st' := [_]) rfl ?_
      refine je_get jb_X12_likens rfl (pc' := 12) rfl (jh_at (a := 45) rfl) (by rfl) (by rfl) ?_
      refine je_ps jb_X12_likens 2 (pc' := 15) (ls' := [_, _, _, _]) (st' := [_, _, _]) rfl ?_
      refine je_imul jb_X12_likens rfl (pc' := 16) rfl ?_
      refine je_ps jb_X12_likens 1 (pc' := 17) (ls' := [_, _, _, _]) (st' := [_, _, _]) rfl ?_
      refine je_iadd jb_X12_likens rfl (pc' := 18) rfl ?_
      refine je_ps jb_X12_likens 1 (pc' := 19) (ls' := [_, _, _, _]) (st' := [_, _, _]) rfl ?_
      refine je_get jb_X12_likens rfl (pc' := 22) rfl (jh_at (a := 45) rfl) (by rfl) (by rfl) ?_
      refine je_ps jb_X12_likens 2 (pc' := 25) (ls' := [_, _, _, _]) (st' := [_, _, _, _, _]) rfl ?_
      refine je_imul jb_X12_likens rfl (pc' := 26) rfl ?_
      refine je_ps jb_X12_likens 1 (pc' := 27) (ls' := [_, _, _, _]) (st' := [_, _, _, _, _]) rfl ?_
      refine je_iadd jb_X12_likens rfl (pc' := 28) rfl ?_
      refine je_iald jb_X12_likens rfl (pc' := 29) rfl (n := 225) (f := _) (jh_at (a := 47) rfl) (by first | omega | exact (hM _ _).1 | exact (hM _ _).2) (by first | omega | exact (hM _ _).1 | exact (hM _ _).2) (by first | omega | exact (hM _ _).1 | exact (hM _ _).2) ?_
      refine je_iastI jb_X12_likens rfl (pc' := 30) rfl (n := 225) (a := 47) rfl (fun _ => rfl) (by first | omega | exact (hM _ _).1 | exact (hM _ _).2) (by first | omega | exact (hM _ _).1 | exact (hM _ _).2) (by first | omega | exact (hM _ _).1 | exact (hM _ _).2) ?_
      refine je_iinc jb_X12_likens rfl (pc' := 33) rfl rfl (ls' := [_, _, _, _]) rfl ?_
      refine je_ps jb_X12_likens 1 (pc' := 2) (ls' := [_, _, _, _]) (st' := []) rfl ?_
      exact kv _ _ ⟨rfl, jh_eq (by rw [gv, gW_tt (by omega) (by omega), jF_s _ L _ (by omega)]; rfl)⟩
  · obtain ⟨rfl, rfl⟩ := gv
    have go := g.o hne (jF (fun p => m 47 (25 * w' + p)) L (25 : Nat)) (m 48 w')
    have gv := go.2.2
    refine je_ps jb_X12_likens 2 (pc' := 5) (ls' := [_, _, _, _]) (st' := [_, _]) rfl ?_
    refine je_icmpge jb_X12_likens rfl (t := 36) rfl (pc' := 8) rfl (by first | omega | exact (hM _ _).1 | exact (hM _ _).2) (by first | omega | exact (hM _ _).1 | exact (hM _ _).2) (by first | omega | exact (hM _ _).1 | exact (hM _ _).2) (by first | omega | exact (hM _ _).1 | exact (hM _ _).2) (fun c5 => ?_) (fun c5 => ?_)
    · refine je_ps jb_X12_likens 1 (pc' := 37) (ls' := [_, _, _, _]) (st' := [_]) rfl ?_
      refine je_get jb_X12_likens rfl (pc' := 40) rfl (jh_at (a := 45) rfl) (by rfl) (by rfl) ?_
      refine je_ps jb_X12_likens 2 (pc' := 42) (ls' := [_, _, _, _]) (st' := [_, _, _]) rfl ?_
      refine je_get jb_X12_likens rfl (pc' := 45) rfl (jh_at (a := 45) rfl) (by rfl) (by rfl) ?_
      refine je_ps jb_X12_likens 1 (pc' := 46) (ls' := [_, _, _, _]) (st' := [_, _, _, _]) rfl ?_
      refine je_iald jb_X12_likens rfl (pc' := 47) rfl (n := 9) (f := _) (jh_at (a := 48) rfl) (by first | omega | exact (hM _ _).1 | exact (hM _ _).2) (by first | omega | exact (hM _ _).1 | exact (hM _ _).2) (by first | omega | exact (hM _ _).1 | exact (hM _ _).2) ?_
      refine je_iastI jb_X12_likens rfl (pc' := 48) rfl (n := 9) (a := 48) rfl (fun _ => rfl) (by first | omega | exact (hM _ _).1 | exact (hM _ _).2) (by first | omega | exact (hM _ _).1 | exact (hM _ _).2) (by first | omega | exact (hM _ _).1 | exact (hM _ _).2) ?_
      exact je_ret jb_X12_likens rfl (by rfl) ⟨rfl, jh_eq (by rw [gv, gW_ee]; exact gW_c (fun p h0 h1 => jF_25 _ _ p ⟨h0, h1⟩))⟩
    · first | (exfalso; omega) | (cases c5; done) | (exfalso; simp_all; done)
theorem k_gcomes {w c e : Int} {L : Int → Int} (g : gR m w L e) (hc : m 45 5 = c) (h0 : 0 ≤ c) (h1 : c < 6) (hw : 6 ≤ w) : jq sc 2 jm_X12_comes [.ref 45, .int (jI w)] (jh m r T) (jP (some (.int (jI c))) (jh (jU (gW m c L e) 45 (ju (m 45) 5 (c + 1))) r T)) := by
  refine je_in jb_X12_comes rfl (ls := [_, _]) rfl ?_
  refine je_ps jb_X12_comes 3 (pc' := 3) (ls' := [_, _]) (st' := [_, _, _]) rfl ?_
  refine je_get jb_X12_comes rfl (pc' := 6) rfl (jh_at (a := 45) rfl) (by rfl) (by rfl) ?_
  rw [hc]
  refine je_cvP' jb_X12_comes rfl (pc' := 9) rfl (jh_at (a := 45) rfl) (by rfl) (by first | decide | exact Nat.ble_eq_true_of_le (by omega)) (k_glikens g (by omega) (by omega)) (st' := []) rfl ?_
  refine je_ps jb_X12_comes 2 (pc' := 11) (ls' := [_, _]) (st' := [_, _]) rfl ?_
  refine je_get jb_X12_comes rfl (pc' := 14) rfl (jh_at (a := 45) rfl) (by rfl) (by rfl) ?_
  refine je_ps jb_X12_comes 1 (pc' := 15) (ls' := [_, _]) (st' := [_, _, _]) rfl ?_
  refine je_iadd jb_X12_comes rfl (pc' := 16) rfl ?_
  refine je_putI jb_X12_comes rfl (pc' := 19) rfl (j := 5) (a := 45) rfl (by rfl) (by rfl) (by rfl) (by rfl) ?_
  refine je_ps jb_X12_comes 1 (pc' := 20) (ls' := [_, _]) (st' := [_]) rfl ?_
  refine je_get jb_X12_comes rfl (pc' := 23) rfl (jh_at (a := 45) rfl) (by rfl) (by rfl) ?_
  refine je_ps jb_X12_comes 1 (pc' := 24) (ls' := [_, _]) (st' := [_, _]) rfl ?_
  refine je_isub jb_X12_comes rfl (pc' := 25) rfl ?_
  rw [jU_same, ju_same, gW_43 m c L e (by decide) (by decide), hc]
  exact je_ret jb_X12_comes rfl (by rfl) ⟨jv_I (by omega), rfl⟩
theorem k_gisWalk {x c : Int} (hc : m 45 5 = c) (h0 : 0 ≤ c ∧ c ≤ 6) (hx : -2147483648 ≤ x ∧ x ≤ 2147483647) : jq sc 2 jm_X12_isWalk [.ref 45, .int (jI x)] (jh m r T) (jP (some (.int (jI (jb (decide (0 ≤ x ∧ x < c)))))) (jh m r T)) := by
  have e1 : decide (0 ≤ x ∧ x < c) = decide (0 ≤ x ∧ x ≤ m 45 5 - 1) := by
    congr 1
    apply propext
    omega
  rw [e1]
  refine je_in jb_X12_isWalk rfl (ls := [_, _]) rfl ?_
  refine je_ps jb_X12_isWalk 3 (pc' := 3) (ls' := [_, _]) (st' := [_, _, _]) rfl ?_
  refine je_get jb_X12_isWalk rfl (pc' := 6) rfl (jh_at (a := 45) rfl) (by rfl) (by rfl) ?_
  refine je_ps jb_X12_isWalk 1 (pc' := 7) (ls' := [_, _]) (st' := [_, _, _, _]) rfl ?_
  refine je_isub jb_X12_isWalk rfl (pc' := 8) rfl ?_
  refine je_csP' jb_X12_isWalk rfl (pc' := 11) rfl (by rfl) (by first | decide | exact Nat.ble_eq_true_of_le (by omega)) (c_X12_isIn (by omega) (by omega) (by omega)) (st' := [_]) rfl ?_
  exact je_retb jb_X12_isWalk rfl ⟨rfl, rfl⟩
theorem k_gisHelper {x c : Int} (hc : m 45 8 = c) (h0 : 0 ≤ c ∧ c ≤ 4) (hx : -2147483648 ≤ x ∧ x ≤ 2147483647) : jq sc 2 jm_X12_isHelper [.ref 45, .int (jI x)] (jh m r T) (jP (some (.int (jI (jb (decide (0 ≤ x ∧ x < c)))))) (jh m r T)) := by
  have e1 : decide (0 ≤ x ∧ x < c) = decide (0 ≤ x ∧ x ≤ m 45 8 - 1) := by
    congr 1
    apply propext
    omega
  rw [e1]
  refine je_in jb_X12_isHelper rfl (ls := [_, _]) rfl ?_
  refine je_ps jb_X12_isHelper 3 (pc' := 3) (ls' := [_, _]) (st' := [_, _, _]) rfl ?_
  refine je_get jb_X12_isHelper rfl (pc' := 6) rfl (jh_at (a := 45) rfl) (by rfl) (by rfl) ?_
  refine je_ps jb_X12_isHelper 1 (pc' := 7) (ls' := [_, _]) (st' := [_, _, _, _]) rfl ?_
  refine je_isub jb_X12_isHelper rfl (pc' := 8) rfl ?_
  refine je_csP' jb_X12_isHelper rfl (pc' := 11) rfl (by rfl) (by first | decide | exact Nat.ble_eq_true_of_le (by omega)) (c_X12_isIn (by omega) (by omega) (by omega)) (st' := [_]) rfl ?_
  exact je_retb jb_X12_isHelper rfl ⟨rfl, rfl⟩
theorem c_X12_isList {x : Int} (hx : -2147483648 ≤ x ∧ x ≤ 2147483647) : jq sc 2 jm_X12_isList [.int (jI x)] σ (jP (some (.int (jI (jb (decide (0 ≤ x ∧ x < 3)))))) σ) := by
  have e1 : decide (0 ≤ x ∧ x < 3) = decide (0 ≤ x ∧ x ≤ 2) := by
    congr 1
    apply propext
    omega
  rw [e1]
  refine je_in jb_X12_isList rfl (ls := [_]) rfl ?_
  refine je_ps jb_X12_isList 3 (pc' := 3) (ls' := [_]) (st' := [_, _, _]) rfl ?_
  refine je_csP' jb_X12_isList rfl (pc' := 6) rfl (by rfl) (by first | decide | exact Nat.ble_eq_true_of_le (by omega)) (c_X12_isIn (by omega) (by omega) (by omega)) (st' := [_]) rfl ?_
  exact je_retb jb_X12_isList rfl ⟨rfl, rfl⟩
theorem k_gdoesTimes {w s n k e c : Int} {L : Int → Int} (g : gWk m w s n k L e) (hc : 0 ≤ c ∧ c ≤ 3) {t : Nat} (ht : t ≤ 1000) : jq sc 4 jm_X12_doesTimes [.ref 45, .int (jI w), .int (jI c), .int (jI t)] (jh m r T) (jP (some (.int (jI (jb (tRep s n k c (L, e) t).1)))) (jh (gW m w (tRep s n k c (L, e) t).2.1 (tRep s n k c (L, e) t).2.2) r T)) := by
  have g0 := g
  refine je_in jb_X12_doesTimes rfl (ls := [_, _, _, _, _, _]) rfl ?_
  refine je_ps jb_X12_doesTimes 4 (pc' := 6) (ls' := [_, _, _, _, _, _]) (st' := []) rfl ?_
  refine je_loop (fun (v : Nat) ls σ' => ls = [.ref 45, .int (jI w), .int (jI c), .int (jI t), .int (jI (jb (tRep s n k c (L, e) v).1)), .int (jI v)] ∧ σ' = jh (gW m w (tRep s n k c (L, e) v).2.1 (tRep s n k c (L, e) v).2.2) r T) (t) ⟨rfl, jh_eq (gW_self g).symm⟩ (fun v hv ls σ' gv kv => ?_) (fun ls σ' gv => ?_)
  · obtain ⟨rfl, rfl⟩ := gv
    have gk := tRep_ok (l := c) (w := (L, e)) g0.1.2 g0.2.2.2.2.1 g0.2.2.2.2.2 v
    have g := gWk.w (m := m) g0.1 g0.2.1 gk.1 gk.2
    refine je_ps jb_X12_doesTimes 2 (pc' := 9) (ls' := [_, _, _, _, _, _]) (st' := [_, _]) rfl ?_
    refine je_icmpge jb_X12_doesTimes rfl (t := 31) rfl (pc' := 12) rfl (by first | omega | exact (hM _ _).1 | exact (hM _ _).2) (by first | omega | exact (hM _ _).1 | exact (hM _ _).2) (by first | omega | exact (hM _ _).1 | exact (hM _ _).2) (by first | omega | exact (hM _ _).1 | exact (hM _ _).2) (fun c9 => ?_) (fun c9 => ?_)
    · first | (exfalso; omega) | (cases c9; done) | (exfalso; simp_all; done)
    · refine je_ps jb_X12_doesTimes 1 (pc' := 14) (ls' := [_, _, _, _, _, _]) (st' := [_]) rfl ?_
      refine je_ifeqb jb_X12_doesTimes rfl (t := 31) rfl (pc' := 17) rfl (fun c14 => ?_) (fun c14 => ?_)
      · refine je_ps jb_X12_doesTimes 1 (pc' := 33) (ls' := [_, _, _, _, _, _]) (st' := [_]) rfl ?_
        first | exact je_retb jb_X12_doesTimes rfl ⟨rfl, rfl⟩ | (rw [tRep_stay c14 t (by omega)]; exact je_retb jb_X12_doesTimes rfl ⟨rfl, rfl⟩)
      · refine je_ps jb_X12_doesTimes 3 (pc' := 20) (ls' := [_, _, _, _, _, _]) (st' := [_, _, _]) rfl ?_
        refine je_cvP' jb_X12_doesTimes rfl (pc' := 23) rfl (jh_at (a := 45) rfl) (by rfl) (by first | decide | exact Nat.ble_eq_true_of_le (by omega)) (k_gdoes g (by omega)) (st' := [_]) rfl ?_
        refine je_ps jb_X12_doesTimes 1 (pc' := 25) (ls' := [_, _, _, _, _, _]) (st' := []) rfl ?_
        refine je_iinc jb_X12_doesTimes rfl (pc' := 28) rfl rfl (ls' := [_, _, _, _, _, _]) rfl ?_
        refine je_ps jb_X12_doesTimes 1 (pc' := 6) (ls' := [_, _, _, _, _, _]) (st' := []) rfl ?_
        have ge : tRep s n k c (L, e) (v + 1) = fGo s n k (tRep s n k c (L, e) v).2.1 (tRep s n k c (L, e) v).2.2 c := if_pos c14
        exact kv _ _ ⟨by rw [ge]; rfl, jh_eq (by rw [gW_W, ge])⟩
  · obtain ⟨rfl, rfl⟩ := gv
    refine je_ps jb_X12_doesTimes 2 (pc' := 9) (ls' := [_, _, _, _, _, _]) (st' := [_, _]) rfl ?_
    refine je_icmpge jb_X12_doesTimes rfl (t := 31) rfl (pc' := 12) rfl (by first | omega | exact (hM _ _).1 | exact (hM _ _).2) (by first | omega | exact (hM _ _).1 | exact (hM _ _).2) (by first | omega | exact (hM _ _).1 | exact (hM _ _).2) (by first | omega | exact (hM _ _).1 | exact (hM _ _).2) (fun c9 => ?_) (fun c9 => ?_)
    · refine je_ps jb_X12_doesTimes 1 (pc' := 33) (ls' := [_, _, _, _, _, _]) (st' := [_]) rfl ?_
      first | exact je_retb jb_X12_doesTimes rfl ⟨rfl, rfl⟩ | (rw [tRep_stay c14 t (by omega)]; exact je_retb jb_X12_doesTimes rfl ⟨rfl, rfl⟩)
    · first | (exfalso; omega) | (cases c9; done) | (exfalso; simp_all; done)
end C36
