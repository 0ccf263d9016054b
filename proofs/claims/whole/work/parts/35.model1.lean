/-! THE OTHER SIDE: small things, a walk's step -/
section C35
variable {sc : Nat × (Nat → Int32)} {m : Nat → Int → Int} {r : Nat → Nat → Value} {T : jx_H} {σ : jx_H}
def gSt (m : Nat → Int → Int) (s n k : Int) : Prop := (m 45 1 = s ∧ m 45 2 = n ∧ m 45 3 = fLo s ∧ m 45 4 = k) ∧ fS s n k
def gF (A : Int → Int) (w : Int) (L : Int → Int) : Int → Int := fun x => if 25 * w ≤ x ∧ x < 25 * w + 25 then L (x - 25 * w) else A x
def gW (m : Nat → Int → Int) (w : Int) (L : Int → Int) (e : Int) : Nat → Int → Int := jU (jU m 47 (gF (m 47) w L)) 48 (ju (m 48) w e)
def gWk (m : Nat → Int → Int) (w : Int) (s n k : Int) (L : Int → Int) (e : Int) : Prop := gSt m s n k ∧ (0 ≤ w ∧ w < 9) ∧ (∀ p : Int, 0 ≤ p → p < 25 → m 47 (25 * w + p) = L p) ∧ m 48 w = e ∧ fL n k L ∧ fC s n e
def fRd (s n x : Int) : Int := if s = 1 then x % n else x
theorem fRe_Rd (s n c b : Int) : fRe s n c b = fRd s n (c + b) := rfl
theorem gF_self {A : Int → Int} {w : Int} {L : Int → Int} (h : ∀ p : Int, 0 ≤ p → p < 25 → A (25 * w + p) = L p) : gF A w L = A := by
  funext x
  unfold gF
  split
  · rename_i hx
    rw [← h (x - 25 * w) (by omega) (by omega)]
    congr 1
    omega
  · rfl
theorem gF_F (A : Int → Int) (w : Int) (L L' : Int → Int) : gF (gF A w L) w L' = gF A w L' := by
  funext x
  unfold gF
  split <;> rfl
theorem gF_at {A : Int → Int} {w p : Int} {L : Int → Int} (h0 : 0 ≤ p) (h1 : p < 25) : gF A w L (25 * w + p) = L p := by
  unfold gF
  rw [if_pos (by omega)]
  congr 1
  omega
theorem gF_ne {A : Int → Int} {w w' p : Int} {L : Int → Int} (h0 : 0 ≤ p) (h1 : p < 25) (h : w' ≠ w) : gF A w L (25 * w' + p) = A (25 * w' + p) := by
  unfold gF
  rw [if_neg (by omega)]
/-- one lamp told anew -/
theorem gF_ju {A : Int → Int} {w p x : Int} {L : Int → Int} (h : ∀ p : Int, 0 ≤ p → p < 25 → A (25 * w + p) = L p) (h0 : 0 ≤ p) (h1 : p < 25) : ju A (25 * w + p) x = gF A w (ju L p x) := by
  funext y
  unfold gF ju
  by_cases hy : y = 25 * w + p
  · rw [if_pos hy, if_pos (by omega), if_pos (by omega)]
  · rw [if_neg hy]
    split
    · rename_i hx
      rw [if_neg (by omega), ← h (y - 25 * w) (by omega) (by omega)]
      congr 1
      omega
    · rfl
theorem gW_W (m : Nat → Int → Int) (w : Int) (L L' : Int → Int) (e e' : Int) : gW (gW m w L e) w L' e' = gW m w L' e' := by
  unfold gW
  rw [jU_ne (b := 47) (a := 48) (by decide), jU_same, jU_same, gF_F, ju_ju, jU_comm (a := 48) (b := 47) (by decide), jU_jU, jU_jU]
theorem gW_self {w s n k e : Int} {L : Int → Int} (g : gWk m w s n k L e) : gW m w L e = m := by
  unfold gW
  rw [gF_self g.2.2.1, jU_self, ← g.2.2.2.1, ju_self, jU_self]
theorem gW_43 (m : Nat → Int → Int) (w : Int) (L : Int → Int) (e : Int) {b : Nat} (h1 : b ≠ 47) (h2 : b ≠ 48) : gW m w L e b = m b := by
  unfold gW
  rw [jU_ne h2, jU_ne h1]
theorem gSt.w {s n k : Int} (g : gSt m s n k) (w : Int) (L : Int → Int) (e : Int) : gSt (gW m w L e) s n k := by
  unfold gSt at *
  rwa [gW_43 m w L e (by decide) (by decide)]
theorem gWk.w {w s n k e : Int} {L : Int → Int} (g : gSt m s n k) (hw : 0 ≤ w ∧ w < 9) (hL : fL n k L) (he : fC s n e) : gWk (gW m w L e) w s n k L e := by
  refine ⟨g.w w L e, hw, fun p h0 h1 => ?_, ?_, hL, he⟩
  · unfold gW
    rw [jU_ne (by decide), jU_same, gF_at h0 h1]
  · unfold gW
    rw [jU_same, ju_same]
theorem gWk.o {w w' s n k e : Int} {L : Int → Int} (g : gWk m w s n k L e) (h : w ≠ w') (L' : Int → Int) (e' : Int) : gWk (gW m w' L' e') w s n k L e := by
  obtain ⟨g1, g2, g3, g4, g5⟩ := g
  refine ⟨g1.w w' L' e', g2, fun p h0 h1 => ?_, ?_, g5⟩
  · unfold gW
    rw [jU_ne (by decide), jU_same, gF_ne h0 h1 h]
    exact g3 p h0 h1
  · unfold gW
    rw [jU_same, ju_ne h]
    exact g4
theorem gW_t {w s n k e p x : Int} {L : Int → Int} (g : gWk m w s n k L e) (h0 : 0 ≤ p) (h1 : p < 25) : jU m 47 (ju (m 47) (25 * w + p) x) = gW m w (ju L p x) e := by
  unfold gW
  rw [gF_ju g.2.2.1 h0 h1, ← g.2.2.2.1, ju_self, jU_comm (a := 47) (b := 48) (by decide), jU_self]
theorem gW_e {w s n k e e' : Int} {L : Int → Int} (g : gWk m w s n k L e) : jU m 48 (ju (m 48) w e') = gW m w L e' := by
  unfold gW
  rw [gF_self g.2.2.1, jU_self]
theorem c_X12_refused {x : Int} (hx : -6 ≤ x ∧ x ≤ -1) : jq sc 1 jm_X12_refused [.ref 45, .int (jI x)] (jh m r T) (jP (some (.int (jI x))) (jh (jU m 46 (ju (m 46) (-x) (m 46 (-x) + 1))) r T)) := by
  refine je_in jb_X12_refused rfl (ls := [_, _]) rfl ?_
  refine je_ps jb_X12_refused 1 (pc' := 1) (ls' := [_, _]) (st' := [_]) rfl ?_
  refine je_get jb_X12_refused rfl (pc' := 4) rfl (jh_at (a := 45) rfl) (by rfl) (by rfl) ?_
  refine je_ps jb_X12_refused 1 (pc' := 5) (ls' := [_, _]) (st' := [_, _]) rfl ?_
  refine je_ineg jb_X12_refused rfl (pc' := 6) rfl ?_
  refine je_ps jb_X12_refused 1 (pc' := 7) (ls' := [_, _]) (st' := [_, _, _, _]) rfl ?_
  refine je_iald jb_X12_refused rfl (pc' := 8) rfl (n := 8) (f := _) (jh_at (a := 46) rfl) (by first | omega | exact (hM _ _).1 | exact (hM _ _).2) (by first | omega | exact (hM _ _).1 | exact (hM _ _).2) (by first | omega | exact (hM _ _).1 | exact (hM _ _).2) ?_
  refine je_ps jb_X12_refused 1 (pc' := 9) (ls' := [_, _]) (st' := [_, _, _, _]) rfl ?_
  refine je_iadd jb_X12_refused rfl (pc' := 10) rfl ?_
  refine je_iastI jb_X12_refused rfl (pc' := 11) rfl (n := 8) (a := 46) rfl (fun _ => rfl) (by first | omega | exact (hM _ _).1 | exact (hM _ _).2) (by first | omega | exact (hM _ _).1 | exact (hM _ _).2) (by first | omega | exact (hM _ _).1 | exact (hM _ _).2) ?_
  refine je_ps jb_X12_refused 1 (pc' := 12) (ls' := [_, _]) (st' := [_]) rfl ?_
  exact je_ret jb_X12_refused rfl (by rfl) ⟨by (first | rfl | (refine jv_t ?_; simp only [decide_eq_true_eq]; omega) | (refine jv_f ?_; simp only [decide_eq_false_iff_not]; omega) | (refine jv_I ?_; omega)), by (first | rfl | (refine jv_t ?_; simp only [decide_eq_true_eq]; omega) | (refine jv_f ?_; simp only [decide_eq_false_iff_not]; omega) | (refine jv_I ?_; omega))⟩
theorem c_X12_refusedFar {x : Int} (hx : -6 ≤ x ∧ x ≤ -1) : jq sc 2 jm_X12_refusedFar [.ref 45, .int (jI x)] (jh m r T) (jP (some (.int (jI (1000000000 - x)))) (jh (jU m 46 (ju (m 46) (-x) (m 46 (-x) + 1))) r T)) := by
  refine je_in jb_X12_refusedFar rfl (ls := [_, _]) rfl ?_
  refine je_ps jb_X12_refusedFar 3 (pc' := 4) (ls' := [_, _]) (st' := [_, _, _]) rfl ?_
  refine je_cvP' jb_X12_refusedFar rfl (pc' := 7) rfl (jh_at (a := 45) rfl) (by rfl) (by first | decide | exact Nat.ble_eq_true_of_le (by omega)) (c_X12_refused (by omega)) (st' := [_, _]) rfl ?_
  refine je_isub jb_X12_refusedFar rfl (pc' := 8) rfl ?_
  exact je_ret jb_X12_refusedFar rfl (by rfl) ⟨by (first | rfl | (refine jv_t ?_; simp only [decide_eq_true_eq]; omega) | (refine jv_f ?_; simp only [decide_eq_false_iff_not]; omega) | (refine jv_I ?_; omega)), by (first | rfl | (refine jv_t ?_; simp only [decide_eq_true_eq]; omega) | (refine jv_f ?_; simp only [decide_eq_false_iff_not]; omega) | (refine jv_I ?_; omega))⟩
theorem c_X12_isIn {x a b : Int} (hx : -2147483648 ≤ x ∧ x ≤ 2147483647) (ha : -2147483648 ≤ a ∧ a ≤ 2147483647) (hb : -2147483648 ≤ b ∧ b ≤ 2147483647) : jq sc 1 jm_X12_isIn [.int (jI x), .int (jI a), .int (jI b)] σ (jP (some (.int (jI (jb (decide (a ≤ x ∧ x ≤ b)))))) σ) := by
  refine je_in jb_X12_isIn rfl (ls := [_, _, _]) rfl ?_
  refine je_ps jb_X12_isIn 2 (pc' := 2) (ls' := [_, _, _]) (st' := [_, _]) rfl ?_
  refine je_icmplt jb_X12_isIn rfl (t := 14) rfl (pc' := 5) rfl (by first | omega | exact (hM _ _).1 | exact (hM _ _).2) (by first | omega | exact (hM _ _).1 | exact (hM _ _).2) (by first | omega | exact (hM _ _).1 | exact (hM _ _).2) (by first | omega | exact (hM _ _).1 | exact (hM _ _).2) (fun c2 => ?_) (fun c2 => ?_)
  · refine je_ps jb_X12_isIn 1 (pc' := 15) (ls' := [_, _, _]) (st' := [_]) rfl ?_
    exact je_ret jb_X12_isIn rfl (by rfl) ⟨by (first | rfl | (refine jv_t ?_; simp only [decide_eq_true_eq]; omega) | (refine jv_f ?_; simp only [decide_eq_false_iff_not]; omega) | (refine jv_I ?_; omega)), by (first | rfl | (refine jv_t ?_; simp only [decide_eq_true_eq]; omega) | (refine jv_f ?_; simp only [decide_eq_false_iff_not]; omega) | (refine jv_I ?_; omega))⟩
  · refine je_ps jb_X12_isIn 2 (pc' := 7) (ls' := [_, _, _]) (st' := [_, _]) rfl ?_
    refine je_icmpgt jb_X12_isIn rfl (t := 14) rfl (pc' := 10) rfl (by first | omega | exact (hM _ _).1 | exact (hM _ _).2) (by first | omega | exact (hM _ _).1 | exact (hM _ _).2) (by first | omega | exact (hM _ _).1 | exact (hM _ _).2) (by first | omega | exact (hM _ _).1 | exact (hM _ _).2) (fun c7 => ?_) (fun c7 => ?_)
    · refine je_ps jb_X12_isIn 1 (pc' := 15) (ls' := [_, _, _]) (st' := [_]) rfl ?_
      exact je_ret jb_X12_isIn rfl (by rfl) ⟨by (first | rfl | (refine jv_t ?_; simp only [decide_eq_true_eq]; omega) | (refine jv_f ?_; simp only [decide_eq_false_iff_not]; omega) | (refine jv_I ?_; omega)), by (first | rfl | (refine jv_t ?_; simp only [decide_eq_true_eq]; omega) | (refine jv_f ?_; simp only [decide_eq_false_iff_not]; omega) | (refine jv_I ?_; omega))⟩
    · refine je_ps jb_X12_isIn 2 (pc' := 15) (ls' := [_, _, _]) (st' := [_]) rfl ?_
      exact je_ret jb_X12_isIn rfl (by rfl) ⟨by (first | rfl | (refine jv_t ?_; simp only [decide_eq_true_eq]; omega) | (refine jv_f ?_; simp only [decide_eq_false_iff_not]; omega) | (refine jv_I ?_; omega)), by (first | rfl | (refine jv_t ?_; simp only [decide_eq_true_eq]; omega) | (refine jv_f ?_; simp only [decide_eq_false_iff_not]; omega) | (refine jv_I ?_; omega))⟩
theorem c_X12_isCorner {s n k c : Int} (g : gSt m s n k) (hc : -2147483648 ≤ c ∧ c ≤ 2147483647) : jq sc 2 jm_X12_isCorner [.ref 45, .int (jI c)] (jh m r T) (jP (some (.int (jI (jb (fHas s n c))))) (jh m r T)) := by
  obtain ⟨⟨g1, g2, g3, g4⟩, gs⟩ := g
  have gl := fLo_c s
  unfold fS at gs
  have e1 : fHas s n c = decide (m 45 3 ≤ c ∧ c ≤ m 45 3 + m 45 2 - 1) := by
    unfold fHas
    congr 1
    rw [g2, g3]
    apply propext
    omega
  rw [e1]
  refine je_in jb_X12_isCorner rfl (ls := [_, _]) rfl ?_
  refine je_ps jb_X12_isCorner 2 (pc' := 2) (ls' := [_, _]) (st' := [_, _]) rfl ?_
  refine je_get jb_X12_isCorner rfl (pc' := 5) rfl (jh_at (a := 45) rfl) (by rfl) (by rfl) ?_
  refine je_ps jb_X12_isCorner 1 (pc' := 6) (ls' := [_, _]) (st' := [_, _, _]) rfl ?_
  refine je_get jb_X12_isCorner rfl (pc' := 9) rfl (jh_at (a := 45) rfl) (by rfl) (by rfl) ?_
  refine je_ps jb_X12_isCorner 1 (pc' := 10) (ls' := [_, _]) (st' := [_, _, _, _]) rfl ?_
  refine je_get jb_X12_isCorner rfl (pc' := 13) rfl (jh_at (a := 45) rfl) (by rfl) (by rfl) ?_
  refine je_iadd jb_X12_isCorner rfl (pc' := 14) rfl ?_
  refine je_ps jb_X12_isCorner 1 (pc' := 15) (ls' := [_, _]) (st' := [_, _, _, _]) rfl ?_
  refine je_isub jb_X12_isCorner rfl (pc' := 16) rfl ?_
  refine je_csP' jb_X12_isCorner rfl (pc' := 19) rfl (by rfl) (by first | decide | exact Nat.ble_eq_true_of_le (by omega)) (c_X12_isIn (by omega) (by omega) (by omega)) (st' := [_]) rfl ?_
  exact je_retb jb_X12_isCorner rfl ⟨rfl, rfl⟩
theorem c_X12_round {s n k x : Int} (g : gSt m s n k) (hx : -2147483648 ≤ x ∧ x ≤ 2147483647) : jq sc 1 jm_X12_round [.ref 45, .int (jI x)] (jh m r T) (jP (some (.int (jI (fRd s n x)))) (jh m r T)) := by
  obtain ⟨⟨g1, g2, g3, g4⟩, gs⟩ := g
  unfold fS at gs
  refine je_in jb_X12_round rfl (ls := [_, _]) rfl ?_
  refine je_ps jb_X12_round 1 (pc' := 1) (ls' := [_, _]) (st' := [_]) rfl ?_
  refine je_get jb_X12_round rfl (pc' := 4) rfl (jh_at (a := 45) rfl) (by rfl) (by rfl) ?_
  refine je_ifeq jb_X12_round rfl (t := 18) rfl (pc' := 7) rfl (by first | omega | exact (hM _ _).1 | exact (hM _ _).2) (by first | omega | exact (hM _ _).1 | exact (hM _ _).2) (fun c4 => ?_) (fun c4 => ?_)
  · refine je_ps jb_X12_round 1 (pc' := 19) (ls' := [_, _]) (st' := [_]) rfl ?_
    exact je_ret jb_X12_round rfl (by rfl) ⟨by unfold fRd; first | rw [if_pos (by omega), g2] | rw [if_neg (by omega)], rfl⟩
  · refine je_ps jb_X12_round 2 (pc' := 9) (ls' := [_, _]) (st' := [_, _]) rfl ?_
    refine je_get jb_X12_round rfl (pc' := 12) rfl (jh_at (a := 45) rfl) (by rfl) (by rfl) ?_
    refine je_fm jb_X12_round rfl (pc' := 15) rfl rfl rfl (by first | omega | exact (hM _ _).1 | exact (hM _ _).2) (by first | omega | exact (hM _ _).1 | exact (hM _ _).2) (by first | omega | exact (hM _ _).1 | exact (hM _ _).2) (by first | omega | exact (hM _ _).1 | exact (hM _ _).2) ?_
    refine je_ps jb_X12_round 1 (pc' := 19) (ls' := [_, _]) (st' := [_]) rfl ?_
    exact je_ret jb_X12_round rfl (by rfl) ⟨by unfold fRd; first | rw [if_pos (by omega), g2] | rw [if_neg (by omega)], rfl⟩
theorem k_gat {w s n k e c : Int} {L : Int → Int} (g : gWk m w s n k L e) (hc : fC s n c) : jq sc 1 jm_X12_at [.ref 45, .int (jI w), .int (jI c)] (jh m r T) (jP (some (.int (jI (L (c - fLo s))))) (jh m r T)) := by
  obtain ⟨⟨⟨g1, g2, g3, g4⟩, gs⟩, gw, gL, ge⟩ := g
  have gl := fLo_c s
  unfold fS at gs
  unfold fC at hc
  refine je_in jb_X12_at rfl (ls := [_, _, _]) rfl ?_
  refine je_ps jb_X12_at 1 (pc' := 1) (ls' := [_, _, _]) (st' := [_]) rfl ?_
  refine je_get jb_X12_at rfl (pc' := 4) rfl (jh_at (a := 45) rfl) (by rfl) (by rfl) ?_
  refine je_ps jb_X12_at 2 (pc' := 7) (ls' := [_, _, _]) (st' := [_, _, _]) rfl ?_
  refine je_imul jb_X12_at rfl (pc' := 8) rfl ?_
  refine je_ps jb_X12_at 1 (pc' := 9) (ls' := [_, _, _]) (st' := [_, _, _]) rfl ?_
  refine je_iadd jb_X12_at rfl (pc' := 10) rfl ?_
  refine je_ps jb_X12_at 1 (pc' := 11) (ls' := [_, _, _]) (st' := [_, _, _]) rfl ?_
  refine je_get jb_X12_at rfl (pc' := 14) rfl (jh_at (a := 45) rfl) (by rfl) (by rfl) ?_
  refine je_isub jb_X12_at rfl (pc' := 15) rfl ?_
  refine je_iald jb_X12_at rfl (pc' := 16) rfl (n := 225) (f := _) (jh_at (a := 47) rfl) (by first | omega | exact (hM _ _).1 | exact (hM _ _).2) (by first | omega | exact (hM _ _).1 | exact (hM _ _).2) (by first | omega | exact (hM _ _).1 | exact (hM _ _).2) ?_
  exact je_ret jb_X12_at rfl (by rfl) ⟨jv_I (by rw [← gL (c - fLo s) (by omega) (by omega), g3]; congr 1; omega), rfl⟩
theorem k_gshows {w s n k e c x : Int} {L : Int → Int} (g : gWk m w s n k L e) (hc : fC s n c) (hx : -2147483648 ≤ x ∧ x ≤ 2147483647) : jq sc 1 jm_X12_shows [.ref 45, .int (jI w), .int (jI c), .int (jI x)] (jh m r T) (jP none (jh (gW m w (ju L (c - fLo s) (x % k)) e) r T)) := by
  have g0 := g
  obtain ⟨⟨⟨g1, g2, g3, g4⟩, gs⟩, gw, gL, ge⟩ := g
  have gl := fLo_c s
  unfold fS at gs
  unfold fC at hc
  refine je_in jb_X12_shows rfl (ls := [_, _, _, _]) rfl ?_
  refine je_ps jb_X12_shows 1 (pc' := 1) (ls' := [_, _, _, _]) (st' := [_]) rfl ?_
  refine je_get jb_X12_shows rfl (pc' := 4) rfl (jh_at (a := 45) rfl) (by rfl) (by rfl) ?_
  refine je_ps jb_X12_shows 2 (pc' := 7) (ls' := [_, _, _, _]) (st' := [_, _, _]) rfl ?_
  refine je_imul jb_X12_shows rfl (pc' := 8) rfl ?_
  refine je_ps jb_X12_shows 1 (pc' := 9) (ls' := [_, _, _, _]) (st' := [_, _, _]) rfl ?_
  refine je_iadd jb_X12_shows rfl (pc' := 10) rfl ?_
  refine je_ps jb_X12_shows 1 (pc' := 11) (ls' := [_, _, _, _]) (st' := [_, _, _]) rfl ?_
  refine je_get jb_X12_shows rfl (pc' := 14) rfl (jh_at (a := 45) rfl) (by rfl) (by rfl) ?_
  refine je_isub jb_X12_shows rfl (pc' := 15) rfl ?_
  refine je_ps jb_X12_shows 2 (pc' := 17) (ls' := [_, _, _, _]) (st' := [_, _, _, _]) rfl ?_
  refine je_get jb_X12_shows rfl (pc' := 20) rfl (jh_at (a := 45) rfl) (by rfl) (by rfl) ?_
  refine je_fm jb_X12_shows rfl (pc' := 23) rfl rfl rfl (by first | omega | exact (hM _ _).1 | exact (hM _ _).2) (by first | omega | exact (hM _ _).1 | exact (hM _ _).2) (by first | omega | exact (hM _ _).1 | exact (hM _ _).2) (by first | omega | exact (hM _ _).1 | exact (hM _ _).2) ?_
  refine je_iastI jb_X12_shows rfl (pc' := 24) rfl (n := 225) (a := 47) rfl (fun _ => rfl) (by first | omega | exact (hM _ _).1 | exact (hM _ _).2) (by first | omega | exact (hM _ _).1 | exact (hM _ _).2) (by first | omega | exact (hM _ _).1 | exact (hM _ _).2) ?_
  exact je_ret jb_X12_shows rfl (by rfl) ⟨rfl, jh_eq (by rw [← gW_t g0 (by omega) (by omega), g3, g4, show 25 * w + c - fLo s = 25 * w + (c - fLo s) by omega])⟩
end C35
