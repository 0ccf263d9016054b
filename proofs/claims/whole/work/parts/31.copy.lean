/-! STREETS AND SCENES COPIED -/
section C31
variable {sc : Nat × (Nat → Int32)} {m : Nat → Int → Int} {r : Nat → Nat → Value} {T : jx_H} {σ : jx_H}
def jSt (m : Nat → Int → Int) (a : Nat) (s n k : Int) : Nat → Int → Int := jU m a (ju (ju (ju (m a) 0 s) 1 n) 2 k)
theorem become_2 {s n k : Int} : jq sc 1 jm_X5_become [.ref 2, .int (jI s), .int (jI n), .int (jI k)] (jh m r T) (jP none (jh (jSt m 2 s n k) r T)) := by
  refine je_in jb_X5_become rfl (ls := [_, _, _, _]) rfl ?_
  refine je_ps jb_X5_become 2 (pc' := 2) (ls' := [_, _, _, _]) (st' := [_, _]) rfl ?_
  refine je_putI jb_X5_become rfl (pc' := 5) rfl (j := 0) (a := 2) rfl (by rfl) (by rfl) (by rfl) (by rfl) ?_
  refine je_ps jb_X5_become 2 (pc' := 7) (ls' := [_, _, _, _]) (st' := [_, _]) rfl ?_
  refine je_putI jb_X5_become rfl (pc' := 10) rfl (j := 1) (a := 2) rfl (by rfl) (by rfl) (by rfl) (by rfl) ?_
  refine je_ps jb_X5_become 2 (pc' := 12) (ls' := [_, _, _, _]) (st' := [_, _]) rfl ?_
  refine je_putI jb_X5_become rfl (pc' := 15) rfl (j := 2) (a := 2) rfl (by rfl) (by rfl) (by rfl) (by rfl) ?_
  exact je_ret jb_X5_become rfl (by rfl) ⟨rfl, jh_eq (by rw [jU_same, jU_same, jU_jU, jU_jU]; rfl)⟩
theorem stcopy_2 : jq sc 2 jm_X5_copyFrom [.ref 2, .ref 18] (jh m r T) (jP none (jh (jSt m 2 (m 18 0) (m 18 1) (m 18 2)) r T)) := by
  refine je_in jb_X5_copyFrom rfl (ls := [_, _]) rfl ?_
  refine je_ps jb_X5_copyFrom 2 (pc' := 2) (ls' := [_, _]) (st' := [_, _]) rfl ?_
  refine je_get jb_X5_copyFrom rfl (pc' := 5) rfl (jh_at (a := 18) rfl) (by rfl) (by rfl) ?_
  refine je_ps jb_X5_copyFrom 1 (pc' := 6) (ls' := [_, _]) (st' := [_, _, _]) rfl ?_
  refine je_get jb_X5_copyFrom rfl (pc' := 9) rfl (jh_at (a := 18) rfl) (by rfl) (by rfl) ?_
  refine je_ps jb_X5_copyFrom 1 (pc' := 10) (ls' := [_, _]) (st' := [_, _, _, _]) rfl ?_
  refine je_get jb_X5_copyFrom rfl (pc' := 13) rfl (jh_at (a := 18) rfl) (by rfl) (by rfl) ?_
  refine je_cvP' jb_X5_copyFrom rfl (pc' := 16) rfl (jh_at (a := 2) rfl) (by rfl) (by first | decide | exact Nat.ble_eq_true_of_le (by omega)) become_2 (st' := []) rfl ?_
  exact je_ret jb_X5_copyFrom rfl (by rfl) ⟨by (first | rfl | (refine jv_t ?_; simp only [decide_eq_true_eq]; omega) | (refine jv_f ?_; simp only [decide_eq_false_iff_not]; omega) | (refine jv_I ?_; omega)), by (first | rfl | (refine jv_t ?_; simp only [decide_eq_true_eq]; omega) | (refine jv_f ?_; simp only [decide_eq_false_iff_not]; omega) | (refine jv_I ?_; omega))⟩
theorem become_18 {s n k : Int} : jq sc 1 jm_X5_become [.ref 18, .int (jI s), .int (jI n), .int (jI k)] (jh m r T) (jP none (jh (jSt m 18 s n k) r T)) := by
  refine je_in jb_X5_become rfl (ls := [_, _, _, _]) rfl ?_
  refine je_ps jb_X5_become 2 (pc' := 2) (ls' := [_, _, _, _]) (st' := [_, _]) rfl ?_
  refine je_putI jb_X5_become rfl (pc' := 5) rfl (j := 0) (a := 18) rfl (by rfl) (by rfl) (by rfl) (by rfl) ?_
  refine je_ps jb_X5_become 2 (pc' := 7) (ls' := [_, _, _, _]) (st' := [_, _]) rfl ?_
  refine je_putI jb_X5_become rfl (pc' := 10) rfl (j := 1) (a := 18) rfl (by rfl) (by rfl) (by rfl) (by rfl) ?_
  refine je_ps jb_X5_become 2 (pc' := 12) (ls' := [_, _, _, _]) (st' := [_, _]) rfl ?_
  refine je_putI jb_X5_become rfl (pc' := 15) rfl (j := 2) (a := 18) rfl (by rfl) (by rfl) (by rfl) (by rfl) ?_
  exact je_ret jb_X5_become rfl (by rfl) ⟨rfl, jh_eq (by rw [jU_same, jU_same, jU_jU, jU_jU]; rfl)⟩
theorem stcopy_18 : jq sc 2 jm_X5_copyFrom [.ref 18, .ref 2] (jh m r T) (jP none (jh (jSt m 18 (m 2 0) (m 2 1) (m 2 2)) r T)) := by
  refine je_in jb_X5_copyFrom rfl (ls := [_, _]) rfl ?_
  refine je_ps jb_X5_copyFrom 2 (pc' := 2) (ls' := [_, _]) (st' := [_, _]) rfl ?_
  refine je_get jb_X5_copyFrom rfl (pc' := 5) rfl (jh_at (a := 2) rfl) (by rfl) (by rfl) ?_
  refine je_ps jb_X5_copyFrom 1 (pc' := 6) (ls' := [_, _]) (st' := [_, _, _]) rfl ?_
  refine je_get jb_X5_copyFrom rfl (pc' := 9) rfl (jh_at (a := 2) rfl) (by rfl) (by rfl) ?_
  refine je_ps jb_X5_copyFrom 1 (pc' := 10) (ls' := [_, _]) (st' := [_, _, _, _]) rfl ?_
  refine je_get jb_X5_copyFrom rfl (pc' := 13) rfl (jh_at (a := 2) rfl) (by rfl) (by rfl) ?_
  refine je_cvP' jb_X5_copyFrom rfl (pc' := 16) rfl (jh_at (a := 18) rfl) (by rfl) (by first | decide | exact Nat.ble_eq_true_of_le (by omega)) become_18 (st' := []) rfl ?_
  exact je_ret jb_X5_copyFrom rfl (by rfl) ⟨by (first | rfl | (refine jv_t ?_; simp only [decide_eq_true_eq]; omega) | (refine jv_f ?_; simp only [decide_eq_false_iff_not]; omega) | (refine jv_I ?_; omega)), by (first | rfl | (refine jv_t ?_; simp only [decide_eq_true_eq]; omega) | (refine jv_f ?_; simp only [decide_eq_false_iff_not]; omega) | (refine jv_I ?_; omega))⟩
end C31
