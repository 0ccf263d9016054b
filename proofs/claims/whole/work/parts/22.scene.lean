/-! SCENES -/
section C22
variable {sc : Nat × (Nat → Int32)} {m : Nat → Int → Int} {r : Nat → Nat → Value} {T : jx_H} {σ : jx_H}
theorem jlt6 {P : Nat → Prop} (h0 : P 0) (h1 : P 1) (h2 : P 2) (h3 : P 3) (h4 : P 4) (h5 : P 5) {i : Nat} (hi : i < 6) : P i := by
  rcases (by omega : i = 0 ∨ i = 1 ∨ i = 2 ∨ i = 3 ∨ i = 4 ∨ i = 5) with h | h | h | h | h | h <;> subst h <;> assumption
theorem jlt4 {P : Nat → Prop} (h0 : P 0) (h1 : P 1) (h2 : P 2) (h3 : P 3) {i : Nat} (hi : i < 4) : P i := by
  rcases (by omega : i = 0 ∨ i = 1 ∨ i = 2 ∨ i = 3) with h | h | h | h <;> subst h <;> assumption
theorem walkAt_n_t {i : Nat} {c : Int} (hc : m 1 2 = c) (h6 : 0 ≤ c ∧ c ≤ 6) (hi : (i : Int) < c) : jq sc 1 jm_X4_walkAt [.ref 1, .int (jI (i : Int))] (jh m r T) (jP (some (.ref (jwa (0 + i)))) (jh m r T)) := by
  have h7 : i < 6 := by omega
  refine je_in jb_X4_walkAt rfl (ls := [_, _, _]) rfl ?_
  refine je_ps jb_X4_walkAt 1 (pc' := 1) (ls' := [_, _, _]) (st' := [_]) rfl ?_
  refine je_iflt jb_X4_walkAt rfl (t := 25) rfl (pc' := 4) rfl (by first | omega | exact (hM _ _).1 | exact (hM _ _).2) (by first | omega | exact (hM _ _).1 | exact (hM _ _).2) (fun c1 => ?_) (fun c1 => ?_)
  · first | (exfalso; omega) | (cases c1; done) | (exfalso; simp_all; done)
  · refine je_ps jb_X4_walkAt 2 (pc' := 6) (ls' := [_, _, _]) (st' := [_, _]) rfl ?_
    refine je_get jb_X4_walkAt rfl (pc' := 9) rfl (jh_at (a := 1) rfl) (by rfl) (by rfl) ?_
    refine je_icmpge jb_X4_walkAt rfl (t := 25) rfl (pc' := 12) rfl (by first | omega | exact (hM _ _).1 | exact (hM _ _).2) (by first | omega | exact (hM _ _).1 | exact (hM _ _).2) (by first | omega | exact (hM _ _).1 | exact (hM _ _).2) (by first | omega | exact (hM _ _).1 | exact (hM _ _).2) (fun c9 => ?_) (fun c9 => ?_)
    · first | (exfalso; omega) | (cases c9; done) | (exfalso; simp_all; done)
    · refine je_ps jb_X4_walkAt 2 (pc' := 14) (ls' := [_, _, _]) (st' := [_, _]) rfl ?_
      refine je_get jb_X4_walkAt rfl (pc' := 17) rfl (jh_at (a := 1) rfl) (by rfl) (by rfl) ?_
      refine je_alenr jb_X4_walkAt rfl (pc' := 18) rfl (jh_at (a := 3) rfl) rfl (n := 6) rfl ?_
      refine je_icmpge jb_X4_walkAt rfl (t := 25) rfl (pc' := 21) rfl (by first | omega | exact (hM _ _).1 | exact (hM _ _).2) (by first | omega | exact (hM _ _).1 | exact (hM _ _).2) (by first | omega | exact (hM _ _).1 | exact (hM _ _).2) (by first | omega | exact (hM _ _).1 | exact (hM _ _).2) (fun c18 => ?_) (fun c18 => ?_)
      · first | (exfalso; omega) | (cases c18; done) | (exfalso; simp_all; done)
      · refine je_ps jb_X4_walkAt 4 (pc' := 28) (ls' := [_, _, _]) (st' := [_]) rfl ?_
        refine je_ifeq jb_X4_walkAt rfl (t := 40) rfl (pc' := 31) rfl (by first | omega | exact (hM _ _).1 | exact (hM _ _).2) (by first | omega | exact (hM _ _).1 | exact (hM _ _).2) (fun c28 => ?_) (fun c28 => ?_)
        · first | (exfalso; omega) | (cases c28; done) | (exfalso; simp_all; done)
        · refine je_ps jb_X4_walkAt 1 (pc' := 32) (ls' := [_, _, _]) (st' := [_]) rfl ?_
          refine je_get jb_X4_walkAt rfl (pc' := 35) rfl (jh_at (a := 1) rfl) (by rfl) (by rfl) ?_
          refine je_ps jb_X4_walkAt 1 (pc' := 36) (ls' := [_, _, _]) (st' := [_, _]) rfl ?_
          refine je_aaln jb_X4_walkAt rfl (pc' := 37) rfl (jh_at (a := 3) rfl) rfl (n := 6) rfl (by first | omega | exact (hM _ _).1 | exact (hM _ _).2) (by first | omega | exact (hM _ _).1 | exact (hM _ _).2) (by first | omega | exact (hM _ _).1 | exact (hM _ _).2) (jlt6 (P := fun i => (_ : List Value)[((i : Int)).toNat]? = some (.ref (jwa (0 + i)))) rfl rfl rfl rfl rfl rfl h7) ?_
          refine je_ps jb_X4_walkAt 1 (pc' := 41) (ls' := [_, _, _]) (st' := [_]) rfl ?_
          exact je_ret jb_X4_walkAt rfl (by rfl) ⟨by (first | rfl | (refine jv_t ?_; simp only [decide_eq_true_eq]; omega) | (refine jv_f ?_; simp only [decide_eq_false_iff_not]; omega) | (refine jv_I ?_; omega)), by (first | rfl | (refine jv_t ?_; simp only [decide_eq_true_eq]; omega) | (refine jv_f ?_; simp only [decide_eq_false_iff_not]; omega) | (refine jv_I ?_; omega))⟩
theorem walkAt_n_f {p c : Int} (hc : m 1 2 = c) (h6 : 0 ≤ c ∧ c ≤ 6) (hp : -2147483648 ≤ p ∧ p ≤ 2147483647) (hi : ¬ (0 ≤ p ∧ p < c)) : jq sc 1 jm_X4_walkAt [.ref 1, .int (jI p)] (jh m r T) (jP (some .null) (jh m r T)) := by
  refine je_in jb_X4_walkAt rfl (ls := [_, _, _]) rfl ?_
  refine je_ps jb_X4_walkAt 1 (pc' := 1) (ls' := [_, _, _]) (st' := [_]) rfl ?_
  refine je_iflt jb_X4_walkAt rfl (t := 25) rfl (pc' := 4) rfl (by first | omega | exact (hM _ _).1 | exact (hM _ _).2) (by first | omega | exact (hM _ _).1 | exact (hM _ _).2) (fun c1 => ?_) (fun c1 => ?_)
  · refine je_ps jb_X4_walkAt 3 (pc' := 28) (ls' := [_, _, _]) (st' := [_]) rfl ?_
    refine je_ifeq jb_X4_walkAt rfl (t := 40) rfl (pc' := 31) rfl (by first | omega | exact (hM _ _).1 | exact (hM _ _).2) (by first | omega | exact (hM _ _).1 | exact (hM _ _).2) (fun c28 => ?_) (fun c28 => ?_)
    · refine je_ps jb_X4_walkAt 1 (pc' := 41) (ls' := [_, _, _]) (st' := [_]) rfl ?_
      exact je_ret jb_X4_walkAt rfl (by rfl) ⟨by (first | rfl | (refine jv_t ?_; simp only [decide_eq_true_eq]; omega) | (refine jv_f ?_; simp only [decide_eq_false_iff_not]; omega) | (refine jv_I ?_; omega)), by (first | rfl | (refine jv_t ?_; simp only [decide_eq_true_eq]; omega) | (refine jv_f ?_; simp only [decide_eq_false_iff_not]; omega) | (refine jv_I ?_; omega))⟩
    · first | (exfalso; omega) | (cases c28; done) | (exfalso; simp_all; done)
  · refine je_ps jb_X4_walkAt 2 (pc' := 6) (ls' := [_, _, _]) (st' := [_, _]) rfl ?_
    refine je_get jb_X4_walkAt rfl (pc' := 9) rfl (jh_at (a := 1) rfl) (by rfl) (by rfl) ?_
    refine je_icmpge jb_X4_walkAt rfl (t := 25) rfl (pc' := 12) rfl (by first | omega | exact (hM _ _).1 | exact (hM _ _).2) (by first | omega | exact (hM _ _).1 | exact (hM _ _).2) (by first | omega | exact (hM _ _).1 | exact (hM _ _).2) (by first | omega | exact (hM _ _).1 | exact (hM _ _).2) (fun c9 => ?_) (fun c9 => ?_)
    · refine je_ps jb_X4_walkAt 3 (pc' := 28) (ls' := [_, _, _]) (st' := [_]) rfl ?_
      refine je_ifeq jb_X4_walkAt rfl (t := 40) rfl (pc' := 31) rfl (by first | omega | exact (hM _ _).1 | exact (hM _ _).2) (by first | omega | exact (hM _ _).1 | exact (hM _ _).2) (fun c28 => ?_) (fun c28 => ?_)
      · refine je_ps jb_X4_walkAt 1 (pc' := 41) (ls' := [_, _, _]) (st' := [_]) rfl ?_
        exact je_ret jb_X4_walkAt rfl (by rfl) ⟨by (first | rfl | (refine jv_t ?_; simp only [decide_eq_true_eq]; omega) | (refine jv_f ?_; simp only [decide_eq_false_iff_not]; omega) | (refine jv_I ?_; omega)), by (first | rfl | (refine jv_t ?_; simp only [decide_eq_true_eq]; omega) | (refine jv_f ?_; simp only [decide_eq_false_iff_not]; omega) | (refine jv_I ?_; omega))⟩
      · first | (exfalso; omega) | (cases c28; done) | (exfalso; simp_all; done)
    · refine je_ps jb_X4_walkAt 2 (pc' := 14) (ls' := [_, _, _]) (st' := [_, _]) rfl ?_
      refine je_get jb_X4_walkAt rfl (pc' := 17) rfl (jh_at (a := 1) rfl) (by rfl) (by rfl) ?_
      refine je_alenr jb_X4_walkAt rfl (pc' := 18) rfl (jh_at (a := 3) rfl) rfl (n := 6) rfl ?_
      refine je_icmpge jb_X4_walkAt rfl (t := 25) rfl (pc' := 21) rfl (by first | omega | exact (hM _ _).1 | exact (hM _ _).2) (by first | omega | exact (hM _ _).1 | exact (hM _ _).2) (by first | omega | exact (hM _ _).1 | exact (hM _ _).2) (by first | omega | exact (hM _ _).1 | exact (hM _ _).2) (fun c18 => ?_) (fun c18 => ?_)
      · refine je_ps jb_X4_walkAt 3 (pc' := 28) (ls' := [_, _, _]) (st' := [_]) rfl ?_
        refine je_ifeq jb_X4_walkAt rfl (t := 40) rfl (pc' := 31) rfl (by first | omega | exact (hM _ _).1 | exact (hM _ _).2) (by first | omega | exact (hM _ _).1 | exact (hM _ _).2) (fun c28 => ?_) (fun c28 => ?_)
        · refine je_ps jb_X4_walkAt 1 (pc' := 41) (ls' := [_, _, _]) (st' := [_]) rfl ?_
          exact je_ret jb_X4_walkAt rfl (by rfl) ⟨by (first | rfl | (refine jv_t ?_; simp only [decide_eq_true_eq]; omega) | (refine jv_f ?_; simp only [decide_eq_false_iff_not]; omega) | (refine jv_I ?_; omega)), by (first | rfl | (refine jv_t ?_; simp only [decide_eq_true_eq]; omega) | (refine jv_f ?_; simp only [decide_eq_false_iff_not]; omega) | (refine jv_I ?_; omega))⟩
        · first | (exfalso; omega) | (cases c28; done) | (exfalso; simp_all; done)
      · exfalso; omega
theorem freeWalk_n_t {c : Nat} (hc : m 1 2 = c) (h6 : c < 6) : jq sc 1 jm_X4_freeWalk [.ref 1] (jh m r T) (jP (some (.ref (jwa (0 + c)))) (jh m r T)) := by
  refine je_in jb_X4_freeWalk rfl (ls := [_]) rfl ?_
  refine je_ps jb_X4_freeWalk 1 (pc' := 1) (ls' := [_]) (st' := [_]) rfl ?_
  refine je_get jb_X4_freeWalk rfl (pc' := 4) rfl (jh_at (a := 1) rfl) (by rfl) (by rfl) ?_
  refine je_iflt jb_X4_freeWalk rfl (t := 31) rfl (pc' := 7) rfl (by first | omega | exact (hM _ _).1 | exact (hM _ _).2) (by first | omega | exact (hM _ _).1 | exact (hM _ _).2) (fun c4 => ?_) (fun c4 => ?_)
  · first | (exfalso; omega) | (cases c4; done) | (exfalso; simp_all; done)
  · refine je_ps jb_X4_freeWalk 1 (pc' := 8) (ls' := [_]) (st' := [_]) rfl ?_
    refine je_get jb_X4_freeWalk rfl (pc' := 11) rfl (jh_at (a := 1) rfl) (by rfl) (by rfl) ?_
    refine je_ps jb_X4_freeWalk 1 (pc' := 12) (ls' := [_]) (st' := [_, _]) rfl ?_
    refine je_get jb_X4_freeWalk rfl (pc' := 15) rfl (jh_at (a := 1) rfl) (by rfl) (by rfl) ?_
    refine je_alenr jb_X4_freeWalk rfl (pc' := 16) rfl (jh_at (a := 3) rfl) rfl (n := 6) rfl ?_
    refine je_icmpge jb_X4_freeWalk rfl (t := 31) rfl (pc' := 19) rfl (by first | omega | exact (hM _ _).1 | exact (hM _ _).2) (by first | omega | exact (hM _ _).1 | exact (hM _ _).2) (by first | omega | exact (hM _ _).1 | exact (hM _ _).2) (by first | omega | exact (hM _ _).1 | exact (hM _ _).2) (fun c16 => ?_) (fun c16 => ?_)
    · first | (exfalso; omega) | (cases c16; done) | (exfalso; simp_all; done)
    · refine je_ps jb_X4_freeWalk 1 (pc' := 20) (ls' := [_]) (st' := [_]) rfl ?_
      refine je_get jb_X4_freeWalk rfl (pc' := 23) rfl (jh_at (a := 1) rfl) (by rfl) (by rfl) ?_
      refine je_ps jb_X4_freeWalk 1 (pc' := 24) (ls' := [_]) (st' := [_, _]) rfl ?_
      refine je_get jb_X4_freeWalk rfl (pc' := 27) rfl (jh_at (a := 1) rfl) (by rfl) (by rfl) ?_
      refine je_aaln jb_X4_freeWalk rfl (pc' := 28) rfl (jh_at (a := 3) rfl) rfl (n := 6) rfl (by first | omega | exact (hM _ _).1 | exact (hM _ _).2) (by first | omega | exact (hM _ _).1 | exact (hM _ _).2) (by first | omega | exact (hM _ _).1 | exact (hM _ _).2) (by rw [hc]; exact jlt6 (P := fun i => (_ : List Value)[((i : Int)).toNat]? = some (.ref (jwa (0 + i)))) rfl rfl rfl rfl rfl rfl h6) ?_
      refine je_ps jb_X4_freeWalk 1 (pc' := 32) (ls' := [_]) (st' := [_]) rfl ?_
      exact je_ret jb_X4_freeWalk rfl (by rfl) ⟨by (first | rfl | (refine jv_t ?_; simp only [decide_eq_true_eq]; omega) | (refine jv_f ?_; simp only [decide_eq_false_iff_not]; omega) | (refine jv_I ?_; omega)), by (first | rfl | (refine jv_t ?_; simp only [decide_eq_true_eq]; omega) | (refine jv_f ?_; simp only [decide_eq_false_iff_not]; omega) | (refine jv_I ?_; omega))⟩
theorem freeWalk_n_f {c : Int} (hc : m 1 2 = c) (h6 : c = 6) : jq sc 1 jm_X4_freeWalk [.ref 1] (jh m r T) (jP (some .null) (jh m r T)) := by
  refine je_in jb_X4_freeWalk rfl (ls := [_]) rfl ?_
  refine je_ps jb_X4_freeWalk 1 (pc' := 1) (ls' := [_]) (st' := [_]) rfl ?_
  refine je_get jb_X4_freeWalk rfl (pc' := 4) rfl (jh_at (a := 1) rfl) (by rfl) (by rfl) ?_
  refine je_iflt jb_X4_freeWalk rfl (t := 31) rfl (pc' := 7) rfl (by first | omega | exact (hM _ _).1 | exact (hM _ _).2) (by first | omega | exact (hM _ _).1 | exact (hM _ _).2) (fun c4 => ?_) (fun c4 => ?_)
  · first | (exfalso; omega) | (cases c4; done) | (exfalso; simp_all; done)
  · refine je_ps jb_X4_freeWalk 1 (pc' := 8) (ls' := [_]) (st' := [_]) rfl ?_
    refine je_get jb_X4_freeWalk rfl (pc' := 11) rfl (jh_at (a := 1) rfl) (by rfl) (by rfl) ?_
    refine je_ps jb_X4_freeWalk 1 (pc' := 12) (ls' := [_]) (st' := [_, _]) rfl ?_
    refine je_get jb_X4_freeWalk rfl (pc' := 15) rfl (jh_at (a := 1) rfl) (by rfl) (by rfl) ?_
    refine je_alenr jb_X4_freeWalk rfl (pc' := 16) rfl (jh_at (a := 3) rfl) rfl (n := 6) rfl ?_
    refine je_icmpge jb_X4_freeWalk rfl (t := 31) rfl (pc' := 19) rfl (by first | omega | exact (hM _ _).1 | exact (hM _ _).2) (by first | omega | exact (hM _ _).1 | exact (hM _ _).2) (by first | omega | exact (hM _ _).1 | exact (hM _ _).2) (by first | omega | exact (hM _ _).1 | exact (hM _ _).2) (fun c16 => ?_) (fun c16 => ?_)
    · refine je_ps jb_X4_freeWalk 1 (pc' := 32) (ls' := [_]) (st' := [_]) rfl ?_
      exact je_ret jb_X4_freeWalk rfl (by rfl) ⟨by (first | rfl | (refine jv_t ?_; simp only [decide_eq_true_eq]; omega) | (refine jv_f ?_; simp only [decide_eq_false_iff_not]; omega) | (refine jv_I ?_; omega)), by (first | rfl | (refine jv_t ?_; simp only [decide_eq_true_eq]; omega) | (refine jv_f ?_; simp only [decide_eq_false_iff_not]; omega) | (refine jv_I ?_; omega))⟩
    · first | (exfalso; omega) | (cases c16; done) | (exfalso; simp_all; done)
theorem keepFreeWalk_n {c : Int} (hc : m 1 2 = c) : jq sc 1 jm_X4_keepFreeWalk [.ref 1] (jh m r T) (jP (some (.int (jI c))) (jh (jU m 1 (ju (m 1) 2 (c + 1))) r T)) := by
  refine je_in jb_X4_keepFreeWalk rfl (ls := [_]) rfl ?_
  refine je_ps jb_X4_keepFreeWalk 2 (pc' := 2) (ls' := [_]) (st' := [_, _]) rfl ?_
  refine je_get jb_X4_keepFreeWalk rfl (pc' := 5) rfl (jh_at (a := 1) rfl) (by rfl) (by rfl) ?_
  refine je_ps jb_X4_keepFreeWalk 1 (pc' := 6) (ls' := [_]) (st' := [_, _, _]) rfl ?_
  refine je_iadd jb_X4_keepFreeWalk rfl (pc' := 7) rfl ?_
  refine je_putI jb_X4_keepFreeWalk rfl (pc' := 10) rfl (j := 2) (a := 1) rfl (by rfl) (by rfl) (by rfl) (by rfl) ?_
  refine je_ps jb_X4_keepFreeWalk 1 (pc' := 11) (ls' := [_]) (st' := [_]) rfl ?_
  refine je_get jb_X4_keepFreeWalk rfl (pc' := 14) rfl (jh_at (a := 1) rfl) (by rfl) (by rfl) ?_
  refine je_ps jb_X4_keepFreeWalk 1 (pc' := 15) (ls' := [_]) (st' := [_, _]) rfl ?_
  refine je_isub jb_X4_keepFreeWalk rfl (pc' := 16) rfl ?_
  rw [jU_same, ju_same, hc]
  exact je_ret jb_X4_keepFreeWalk rfl (by rfl) ⟨jv_I (by omega), rfl⟩
theorem helperAt_n_t {i : Nat} {c : Int} {t : Nat} (hc : m 1 5 = c) (h6 : 0 ≤ c ∧ c ≤ 4) (hi : (i : Int) < c) (ht : r 4 i = .ref t) : jq sc 1 jm_X4_helperAt [.ref 1, .int (jI (i : Int))] (jh m r T) (jP (some (.ref t)) (jh m r T)) := by
  have h7 : i < 4 := by omega
  refine je_in jb_X4_helperAt rfl (ls := [_, _, _]) rfl ?_
  refine je_ps jb_X4_helperAt 1 (pc' := 1) (ls' := [_, _, _]) (st' := [_]) rfl ?_
  refine je_iflt jb_X4_helperAt rfl (t := 25) rfl (pc' := 4) rfl (by first | omega | exact (hM _ _).1 | exact (hM _ _).2) (by first | omega | exact (hM _ _).1 | exact (hM _ _).2) (fun c1 => ?_) (fun c1 => ?_)
  · first | (exfalso; omega) | (cases c1; done) | (exfalso; simp_all; done)
  · refine je_ps jb_X4_helperAt 2 (pc' := 6) (ls' := [_, _, _]) (st' := [_, _]) rfl ?_
    refine je_get jb_X4_helperAt rfl (pc' := 9) rfl (jh_at (a := 1) rfl) (by rfl) (by rfl) ?_
    refine je_icmpge jb_X4_helperAt rfl (t := 25) rfl (pc' := 12) rfl (by first | omega | exact (hM _ _).1 | exact (hM _ _).2) (by first | omega | exact (hM _ _).1 | exact (hM _ _).2) (by first | omega | exact (hM _ _).1 | exact (hM _ _).2) (by first | omega | exact (hM _ _).1 | exact (hM _ _).2) (fun c9 => ?_) (fun c9 => ?_)
    · first | (exfalso; omega) | (cases c9; done) | (exfalso; simp_all; done)
    · refine je_ps jb_X4_helperAt 2 (pc' := 14) (ls' := [_, _, _]) (st' := [_, _]) rfl ?_
      refine je_get jb_X4_helperAt rfl (pc' := 17) rfl (jh_at (a := 1) rfl) (by rfl) (by rfl) ?_
      refine je_alenr jb_X4_helperAt rfl (pc' := 18) rfl (jh_at (a := 4) rfl) rfl (n := 4) rfl ?_
      refine je_icmpge jb_X4_helperAt rfl (t := 25) rfl (pc' := 21) rfl (by first | omega | exact (hM _ _).1 | exact (hM _ _).2) (by first | omega | exact (hM _ _).1 | exact (hM _ _).2) (by first | omega | exact (hM _ _).1 | exact (hM _ _).2) (by first | omega | exact (hM _ _).1 | exact (hM _ _).2) (fun c18 => ?_) (fun c18 => ?_)
      · first | (exfalso; omega) | (cases c18; done) | (exfalso; simp_all; done)
      · refine je_ps jb_X4_helperAt 4 (pc' := 28) (ls' := [_, _, _]) (st' := [_]) rfl ?_
        refine je_ifeq jb_X4_helperAt rfl (t := 40) rfl (pc' := 31) rfl (by first | omega | exact (hM _ _).1 | exact (hM _ _).2) (by first | omega | exact (hM _ _).1 | exact (hM _ _).2) (fun c28 => ?_) (fun c28 => ?_)
        · first | (exfalso; omega) | (cases c28; done) | (exfalso; simp_all; done)
        · refine je_ps jb_X4_helperAt 1 (pc' := 32) (ls' := [_, _, _]) (st' := [_]) rfl ?_
          refine je_get jb_X4_helperAt rfl (pc' := 35) rfl (jh_at (a := 1) rfl) (by rfl) (by rfl) ?_
          refine je_ps jb_X4_helperAt 1 (pc' := 36) (ls' := [_, _, _]) (st' := [_, _]) rfl ?_
          refine je_aaln jb_X4_helperAt rfl (pc' := 37) rfl (jh_at (a := 4) rfl) rfl (n := 4) rfl (by first | omega | exact (hM _ _).1 | exact (hM _ _).2) (by first | omega | exact (hM _ _).1 | exact (hM _ _).2) (by first | omega | exact (hM _ _).1 | exact (hM _ _).2) ((jlt4 (P := fun i => (_ : List Value)[((i : Int)).toNat]? = some (r 4 i)) rfl rfl rfl rfl h7).trans (congrArg some ht)) ?_
          refine je_ps jb_X4_helperAt 1 (pc' := 41) (ls' := [_, _, _]) (st' := [_]) rfl ?_
          exact je_ret jb_X4_helperAt rfl (by rfl) ⟨by (first | rfl | (refine jv_t ?_; simp only [decide_eq_true_eq]; omega) | (refine jv_f ?_; simp only [decide_eq_false_iff_not]; omega) | (refine jv_I ?_; omega)), by (first | rfl | (refine jv_t ?_; simp only [decide_eq_true_eq]; omega) | (refine jv_f ?_; simp only [decide_eq_false_iff_not]; omega) | (refine jv_I ?_; omega))⟩
theorem helperAt_n_f {p c : Int} (hc : m 1 5 = c) (h6 : 0 ≤ c ∧ c ≤ 4) (hp : -2147483648 ≤ p ∧ p ≤ 2147483647) (hi : ¬ (0 ≤ p ∧ p < c)) : jq sc 1 jm_X4_helperAt [.ref 1, .int (jI p)] (jh m r T) (jP (some .null) (jh m r T)) := by
  refine je_in jb_X4_helperAt rfl (ls := [_, _, _]) rfl ?_
  refine je_ps jb_X4_helperAt 1 (pc' := 1) (ls' := [_, _, _]) (st' := [_]) rfl ?_
  refine je_iflt jb_X4_helperAt rfl (t := 25) rfl (pc' := 4) rfl (by first | omega | exact (hM _ _).1 | exact (hM _ _).2) (by first | omega | exact (hM _ _).1 | exact (hM _ _).2) (fun c1 => ?_) (fun c1 => ?_)
  · refine je_ps jb_X4_helperAt 3 (pc' := 28) (ls' := [_, _, _]) (st' := [_]) rfl ?_
    refine je_ifeq jb_X4_helperAt rfl (t := 40) rfl (pc' := 31) rfl (by first | omega | exact (hM _ _).1 | exact (hM _ _).2) (by first | omega | exact (hM _ _).1 | exact (hM _ _).2) (fun c28 => ?_) (fun c28 => ?_)
    · refine je_ps jb_X4_helperAt 1 (pc' := 41) (ls' := [_, _, _]) (st' := [_]) rfl ?_
      exact je_ret jb_X4_helperAt rfl (by rfl) ⟨by (first | rfl | (refine jv_t ?_; simp only [decide_eq_true_eq]; omega) | (refine jv_f ?_; simp only [decide_eq_false_iff_not]; omega) | (refine jv_I ?_; omega)), by (first | rfl | (refine jv_t ?_; simp only [decide_eq_true_eq]; omega) | (refine jv_f ?_; simp only [decide_eq_false_iff_not]; omega) | (refine jv_I ?_; omega))⟩
    · first | (exfalso; omega) | (cases c28; done) | (exfalso; simp_all; done)
  · refine je_ps jb_X4_helperAt 2 (pc' := 6) (ls' := [_, _, _]) (st' := [_, _]) rfl ?_
    refine je_get jb_X4_helperAt rfl (pc' := 9) rfl (jh_at (a := 1) rfl) (by rfl) (by rfl) ?_
    refine je_icmpge jb_X4_helperAt rfl (t := 25) rfl (pc' := 12) rfl (by first | omega | exact (hM _ _).1 | exact (hM _ _).2) (by first | omega | exact (hM _ _).1 | exact (hM _ _).2) (by first | omega | exact (hM _ _).1 | exact (hM _ _).2) (by first | omega | exact (hM _ _).1 | exact (hM _ _).2) (fun c9 => ?_) (fun c9 => ?_)
    · refine je_ps jb_X4_helperAt 3 (pc' := 28) (ls' := [_, _, _]) (st' := [_]) rfl ?_
      refine je_ifeq jb_X4_helperAt rfl (t := 40) rfl (pc' := 31) rfl (by first | omega | exact (hM _ _).1 | exact (hM _ _).2) (by first | omega | exact (hM _ _).1 | exact (hM _ _).2) (fun c28 => ?_) (fun c28 => ?_)
      · refine je_ps jb_X4_helperAt 1 (pc' := 41) (ls' := [_, _, _]) (st' := [_]) rfl ?_
        exact je_ret jb_X4_helperAt rfl (by rfl) ⟨by (first | rfl | (refine jv_t ?_; simp only [decide_eq_true_eq]; omega) | (refine jv_f ?_; simp only [decide_eq_false_iff_not]; omega) | (refine jv_I ?_; omega)), by (first | rfl | (refine jv_t ?_; simp only [decide_eq_true_eq]; omega) | (refine jv_f ?_; simp only [decide_eq_false_iff_not]; omega) | (refine jv_I ?_; omega))⟩
      · first | (exfalso; omega) | (cases c28; done) | (exfalso; simp_all; done)
    · refine je_ps jb_X4_helperAt 2 (pc' := 14) (ls' := [_, _, _]) (st' := [_, _]) rfl ?_
      refine je_get jb_X4_helperAt rfl (pc' := 17) rfl (jh_at (a := 1) rfl) (by rfl) (by rfl) ?_
      refine je_alenr jb_X4_helperAt rfl (pc' := 18) rfl (jh_at (a := 4) rfl) rfl (n := 4) rfl ?_
      refine je_icmpge jb_X4_helperAt rfl (t := 25) rfl (pc' := 21) rfl (by first | omega | exact (hM _ _).1 | exact (hM _ _).2) (by first | omega | exact (hM _ _).1 | exact (hM _ _).2) (by first | omega | exact (hM _ _).1 | exact (hM _ _).2) (by first | omega | exact (hM _ _).1 | exact (hM _ _).2) (fun c18 => ?_) (fun c18 => ?_)
      · refine je_ps jb_X4_helperAt 3 (pc' := 28) (ls' := [_, _, _]) (st' := [_]) rfl ?_
        refine je_ifeq jb_X4_helperAt rfl (t := 40) rfl (pc' := 31) rfl (by first | omega | exact (hM _ _).1 | exact (hM _ _).2) (by first | omega | exact (hM _ _).1 | exact (hM _ _).2) (fun c28 => ?_) (fun c28 => ?_)
        · refine je_ps jb_X4_helperAt 1 (pc' := 41) (ls' := [_, _, _]) (st' := [_]) rfl ?_
          exact je_ret jb_X4_helperAt rfl (by rfl) ⟨by (first | rfl | (refine jv_t ?_; simp only [decide_eq_true_eq]; omega) | (refine jv_f ?_; simp only [decide_eq_false_iff_not]; omega) | (refine jv_I ?_; omega)), by (first | rfl | (refine jv_t ?_; simp only [decide_eq_true_eq]; omega) | (refine jv_f ?_; simp only [decide_eq_false_iff_not]; omega) | (refine jv_I ?_; omega))⟩
        · first | (exfalso; omega) | (cases c28; done) | (exfalso; simp_all; done)
      · exfalso; omega
theorem walkAt_t_t {i : Nat} {c : Int} (hc : m 19 2 = c) (h6 : 0 ≤ c ∧ c ≤ 6) (hi : (i : Int) < c) : jq sc 1 jm_X4_walkAt [.ref 19, .int (jI (i : Int))] (jh m r T) (jP (some (.ref (jwa (6 + i)))) (jh m r T)) := by
  have h7 : i < 6 := by omega
  refine je_in jb_X4_walkAt rfl (ls := [_, _, _]) rfl ?_
  refine je_ps jb_X4_walkAt 1 (pc' := 1) (ls' := [_, _, _]) (st' := [_]) rfl ?_
  refine je_iflt jb_X4_walkAt rfl (t := 25) rfl (pc' := 4) rfl (by first | omega | exact (hM _ _).1 | exact (hM _ _).2) (by first | omega | exact (hM _ _).1 | exact (hM _ _).2) (fun c1 => ?_) (fun c1 => ?_)
  · first | (exfalso; omega) | (cases c1; done) | (exfalso; simp_all; done)
  · refine je_ps jb_X4_walkAt 2 (pc' := 6) (ls' := [_, _, _]) (st' := [_, _]) rfl ?_
    refine je_get jb_X4_walkAt rfl (pc' := 9) rfl (jh_at (a := 19) rfl) (by rfl) (by rfl) ?_
    refine je_icmpge jb_X4_walkAt rfl (t := 25) rfl (pc' := 12) rfl (by first | omega | exact (hM _ _).1 | exact (hM _ _).2) (by first | omega | exact (hM _ _).1 | exact (hM _ _).2) (by first | omega | exact (hM _ _).1 | exact (hM _ _).2) (by first | omega | exact (hM _ _).1 | exact (hM _ _).2) (fun c9 => ?_) (fun c9 => ?_)
    · first | (exfalso; omega) | (cases c9; done) | (exfalso; simp_all; done)
    · refine je_ps jb_X4_walkAt 2 (pc' := 14) (ls' := [_, _, _]) (st' := [_, _]) rfl ?_
      refine je_get jb_X4_walkAt rfl (pc' := 17) rfl (jh_at (a := 19) rfl) (by rfl) (by rfl) ?_
      refine je_alenr jb_X4_walkAt rfl (pc' := 18) rfl (jh_at (a := 21) rfl) rfl (n := 6) rfl ?_
      refine je_icmpge jb_X4_walkAt rfl (t := 25) rfl (pc' := 21) rfl (by first | omega | exact (hM _ _).1 | exact (hM _ _).2) (by first | omega | exact (hM _ _).1 | exact (hM _ _).2) (by first | omega | exact (hM _ _).1 | exact (hM _ _).2) (by first | omega | exact (hM _ _).1 | exact (hM _ _).2) (fun c18 => ?_) (fun c18 => ?_)
      · first | (exfalso; omega) | (cases c18; done) | (exfalso; simp_all; done)
      · refine je_ps jb_X4_walkAt 4 (pc' := 28) (ls' := [_, _, _]) (st' := [_]) rfl ?_
        refine je_ifeq jb_X4_walkAt rfl (t := 40) rfl (pc' := 31) rfl (by first | omega | exact (hM _ _).1 | exact (hM _ _).2) (by first | omega | exact (hM _ _).1 | exact (hM _ _).2) (fun c28 => ?_) (fun c28 => ?_)
        · first | (exfalso; omega) | (cases c28; done) | (exfalso; simp_all; done)
        · refine je_ps jb_X4_walkAt 1 (pc' := 32) (ls' := [_, _, _]) (st' := [_]) rfl ?_
          refine je_get jb_X4_walkAt rfl (pc' := 35) rfl (jh_at (a := 19) rfl) (by rfl) (by rfl) ?_
          refine je_ps jb_X4_walkAt 1 (pc' := 36) (ls' := [_, _, _]) (st' := [_, _]) rfl ?_
          refine je_aaln jb_X4_walkAt rfl (pc' := 37) rfl (jh_at (a := 21) rfl) rfl (n := 6) rfl (by first | omega | exact (hM _ _).1 | exact (hM _ _).2) (by first | omega | exact (hM _ _).1 | exact (hM _ _).2) (by first | omega | exact (hM _ _).1 | exact (hM _ _).2) (jlt6 (P := fun i => (_ : List Value)[((i : Int)).toNat]? = some (.ref (jwa (6 + i)))) rfl rfl rfl rfl rfl rfl h7) ?_
          refine je_ps jb_X4_walkAt 1 (pc' := 41) (ls' := [_, _, _]) (st' := [_]) rfl ?_
          exact je_ret jb_X4_walkAt rfl (by rfl) ⟨by (first | rfl | (refine jv_t ?_; simp only [decide_eq_true_eq]; omega) | (refine jv_f ?_; simp only [decide_eq_false_iff_not]; omega) | (refine jv_I ?_; omega)), by (first | rfl | (refine jv_t ?_; simp only [decide_eq_true_eq]; omega) | (refine jv_f ?_; simp only [decide_eq_false_iff_not]; omega) | (refine jv_I ?_; omega))⟩
theorem walkAt_t_f {p c : Int} (hc : m 19 2 = c) (h6 : 0 ≤ c ∧ c ≤ 6) (hp : -2147483648 ≤ p ∧ p ≤ 2147483647) (hi : ¬ (0 ≤ p ∧ p < c)) : jq sc 1 jm_X4_walkAt [.ref 19, .int (jI p)] (jh m r T) (jP (some .null) (jh m r T)) := by
  refine je_in jb_X4_walkAt rfl (ls := [_, _, _]) rfl ?_
  refine je_ps jb_X4_walkAt 1 (pc' := 1) (ls' := [_, _, _]) (st' := [_]) rfl ?_
  refine je_iflt jb_X4_walkAt rfl (t := 25) rfl (pc' := 4) rfl (by first | omega | exact (hM _ _).1 | exact (hM _ _).2) (by first | omega | exact (hM _ _).1 | exact (hM _ _).2) (fun c1 => ?_) (fun c1 => ?_)
  · refine je_ps jb_X4_walkAt 3 (pc' := 28) (ls' := [_, _, _]) (st' := [_]) rfl ?_
    refine je_ifeq jb_X4_walkAt rfl (t := 40) rfl (pc' := 31) rfl (by first | omega | exact (hM _ _).1 | exact (hM _ _).2) (by first | omega | exact (hM _ _).1 | exact (hM _ _).2) (fun c28 => ?_) (fun c28 => ?_)
    · refine je_ps jb_X4_walkAt 1 (pc' := 41) (ls' := [_, _, _]) (st' := [_]) rfl ?_
      exact je_ret jb_X4_walkAt rfl (by rfl) ⟨by (first | rfl | (refine jv_t ?_; simp only [decide_eq_true_eq]; omega) | (refine jv_f ?_; simp only [decide_eq_false_iff_not]; omega) | (refine jv_I ?_; omega)), by (first | rfl | (refine jv_t ?_; simp only [decide_eq_true_eq]; omega) | (refine jv_f ?_; simp only [decide_eq_false_iff_not]; omega) | (refine jv_I ?_; omega))⟩
    · first | (exfalso; omega) | (cases c28; done) | (exfalso; simp_all; done)
  · refine je_ps jb_X4_walkAt 2 (pc' := 6) (ls' := [_, _, _]) (st' := [_, _]) rfl ?_
    refine je_get jb_X4_walkAt rfl (pc' := 9) rfl (jh_at (a := 19) rfl) (by rfl) (by rfl) ?_
    refine je_icmpge jb_X4_walkAt rfl (t := 25) rfl (pc' := 12) rfl (by first | omega | exact (hM _ _).1 | exact (hM _ _).2) (by first | omega | exact (hM _ _).1 | exact (hM _ _).2) (by first | omega | exact (hM _ _).1 | exact (hM _ _).2) (by first | omega | exact (hM _ _).1 | exact (hM _ _).2) (fun c9 => ?_) (fun c9 => ?_)
    · refine je_ps jb_X4_walkAt 3 (pc' := 28) (ls' := [_, _, _]) (st' := [_]) rfl ?_
      refine je_ifeq jb_X4_walkAt rfl (t := 40) rfl (pc' := 31) rfl (by first | omega | exact (hM _ _).1 | exact (hM _ _).2) (by first | omega | exact (hM _ _).1 | exact (hM _ _).2) (fun c28 => ?_) (fun c28 => ?_)
      · refine je_ps jb_X4_walkAt 1 (pc' := 41) (ls' := [_, _, _]) (st' := [_]) rfl ?_
        exact je_ret jb_X4_walkAt rfl (by rfl) ⟨by (first | rfl | (refine jv_t ?_; simp only [decide_eq_true_eq]; omega) | (refine jv_f ?_; simp only [decide_eq_false_iff_not]; omega) | (refine jv_I ?_; omega)), by (first | rfl | (refine jv_t ?_; simp only [decide_eq_true_eq]; omega) | (refine jv_f ?_; simp only [decide_eq_false_iff_not]; omega) | (refine jv_I ?_; omega))⟩
      · first | (exfalso; omega) | (cases c28; done) | (exfalso; simp_all; done)
    · refine je_ps jb_X4_walkAt 2 (pc' := 14) (ls' := [_, _, _]) (st' := [_, _]) rfl ?_
      refine je_get jb_X4_walkAt rfl (pc' := 17) rfl (jh_at (a := 19) rfl) (by rfl) (by rfl) ?_
      refine je_alenr jb_X4_walkAt rfl (pc' := 18) rfl (jh_at (a := 21) rfl) rfl (n := 6) rfl ?_
      refine je_icmpge jb_X4_walkAt rfl (t := 25) rfl (pc' := 21) rfl (by first | omega | exact (hM _ _).1 | exact (hM _ _).2) (by first | omega | exact (hM _ _).1 | exact (hM _ _).2) (by first | omega | exact (hM _ _).1 | exact (hM _ _).2) (by first | omega | exact (hM _ _).1 | exact (hM _ _).2) (fun c18 => ?_) (fun c18 => ?_)
      · refine je_ps jb_X4_walkAt 3 (pc' := 28) (ls' := [_, _, _]) (st' := [_]) rfl ?_
        refine je_ifeq jb_X4_walkAt rfl (t := 40) rfl (pc' := 31) rfl (by first | omega | exact (hM _ _).1 | exact (hM _ _).2) (by first | omega | exact (hM _ _).1 | exact (hM _ _).2) (fun c28 => ?_) (fun c28 => ?_)
        · refine je_ps jb_X4_walkAt 1 (pc' := 41) (ls' := [_, _, _]) (st' := [_]) rfl ?_
          exact je_ret jb_X4_walkAt rfl (by rfl) ⟨by (first | rfl | (refine jv_t ?_; simp only [decide_eq_true_eq]; omega) | (refine jv_f ?_; simp only [decide_eq_false_iff_not]; omega) | (refine jv_I ?_; omega)), by (first | rfl | (refine jv_t ?_; simp only [decide_eq_true_eq]; omega) | (refine jv_f ?_; simp only [decide_eq_false_iff_not]; omega) | (refine jv_I ?_; omega))⟩
        · first | (exfalso; omega) | (cases c28; done) | (exfalso; simp_all; done)
      · exfalso; omega
theorem freeWalk_t_t {c : Nat} (hc : m 19 2 = c) (h6 : c < 6) : jq sc 1 jm_X4_freeWalk [.ref 19] (jh m r T) (jP (some (.ref (jwa (6 + c)))) (jh m r T)) := by
  refine je_in jb_X4_freeWalk rfl (ls := [_]) rfl ?_
  refine je_ps jb_X4_freeWalk 1 (pc' := 1) (ls' := [_]) (st' := [_]) rfl ?_
  refine je_get jb_X4_freeWalk rfl (pc' := 4) rfl (jh_at (a := 19) rfl) (by rfl) (by rfl) ?_
  refine je_iflt jb_X4_freeWalk rfl (t := 31) rfl (pc' := 7) rfl (by first | omega | exact (hM _ _).1 | exact (hM _ _).2) (by first | omega | exact (hM _ _).1 | exact (hM _ _).2) (fun c4 => ?_) (fun c4 => ?_)
  · first | (exfalso; omega) | (cases c4; done) | (exfalso; simp_all; done)
  · refine je_ps jb_X4_freeWalk 1 (pc' := 8) (ls' := [_]) (st' := [_]) rfl ?_
    refine je_get jb_X4_freeWalk rfl (pc' := 11) rfl (jh_at (a := 19) rfl) (by rfl) (by rfl) ?_
    refine je_ps jb_X4_freeWalk 1 (pc' := 12) (ls' := [_]) (st' := [_, _]) rfl ?_
    refine je_get jb_X4_freeWalk rfl (pc' := 15) rfl (jh_at (a := 19) rfl) (by rfl) (by rfl) ?_
    refine je_alenr jb_X4_freeWalk rfl (pc' := 16) rfl (jh_at (a := 21) rfl) rfl (n := 6) rfl ?_
    refine je_icmpge jb_X4_freeWalk rfl (t := 31) rfl (pc' := 19) rfl (by first | omega | exact (hM _ _).1 | exact (hM _ _).2) (by first | omega | exact (hM _ _).1 | exact (hM _ _).2) (by first | omega | exact (hM _ _).1 | exact (hM _ _).2) (by first | omega | exact (hM _ _).1 | exact (hM _ _).2) (fun c16 => ?_) (fun c16 => ?_)
    · first | (exfalso; omega) | (cases c16; done) | (exfalso; simp_all; done)
    · refine je_ps jb_X4_freeWalk 1 (pc' := 20) (ls' := [_]) (st' := [_]) rfl ?_
      refine je_get jb_X4_freeWalk rfl (pc' := 23) rfl (jh_at (a := 19) rfl) (by rfl) (by rfl) ?_
      refine je_ps jb_X4_freeWalk 1 (pc' := 24) (ls' := [_]) (st' := [_, _]) rfl ?_
      refine je_get jb_X4_freeWalk rfl (pc' := 27) rfl (jh_at (a := 19) rfl) (by rfl) (by rfl) ?_
      refine je_aaln jb_X4_freeWalk rfl (pc' := 28) rfl (jh_at (a := 21) rfl) rfl (n := 6) rfl (by first | omega | exact (hM _ _).1 | exact (hM _ _).2) (by first | omega | exact (hM _ _).1 | exact (hM _ _).2) (by first | omega | exact (hM _ _).1 | exact (hM _ _).2) (by rw [hc]; exact jlt6 (P := fun i => (_ : List Value)[((i : Int)).toNat]? = some (.ref (jwa (6 + i)))) rfl rfl rfl rfl rfl rfl h6) ?_
      refine je_ps jb_X4_freeWalk 1 (pc' := 32) (ls' := [_]) (st' := [_]) rfl ?_
      exact je_ret jb_X4_freeWalk rfl (by rfl) ⟨by (first | rfl | (refine jv_t ?_; simp only [decide_eq_true_eq]; omega) | (refine jv_f ?_; simp only [decide_eq_false_iff_not]; omega) | (refine jv_I ?_; omega)), by (first | rfl | (refine jv_t ?_; simp only [decide_eq_true_eq]; omega) | (refine jv_f ?_; simp only [decide_eq_false_iff_not]; omega) | (refine jv_I ?_; omega))⟩
theorem freeWalk_t_f {c : Int} (hc : m 19 2 = c) (h6 : c = 6) : jq sc 1 jm_X4_freeWalk [.ref 19] (jh m r T) (jP (some .null) (jh m r T)) := by
  refine je_in jb_X4_freeWalk rfl (ls := [_]) rfl ?_
  refine je_ps jb_X4_freeWalk 1 (pc' := 1) (ls' := [_]) (st' := [_]) rfl ?_
  refine je_get jb_X4_freeWalk rfl (pc' := 4) rfl (jh_at (a := 19) rfl) (by rfl) (by rfl) ?_
  refine je_iflt jb_X4_freeWalk rfl (t := 31) rfl (pc' := 7) rfl (by first | omega | exact (hM _ _).1 | exact (hM _ _).2) (by first | omega | exact (hM _ _).1 | exact (hM _ _).2) (fun c4 => ?_) (fun c4 => ?_)
  · first | (exfalso; omega) | (cases c4; done) | (exfalso; simp_all; done)
  · refine je_ps jb_X4_freeWalk 1 (pc' := 8) (ls' := [_]) (st' := [_]) rfl ?_
    refine je_get jb_X4_freeWalk rfl (pc' := 11) rfl (jh_at (a := 19) rfl) (by rfl) (by rfl) ?_
    refine je_ps jb_X4_freeWalk 1 (pc' := 12) (ls' := [_]) (st' := [_, _]) rfl ?_
    refine je_get jb_X4_freeWalk rfl (pc' := 15) rfl (jh_at (a := 19) rfl) (by rfl) (by rfl) ?_
    refine je_alenr jb_X4_freeWalk rfl (pc' := 16) rfl (jh_at (a := 21) rfl) rfl (n := 6) rfl ?_
    refine je_icmpge jb_X4_freeWalk rfl (t := 31) rfl (pc' := 19) rfl (by first | omega | exact (hM _ _).1 | exact (hM _ _).2) (by first | omega | exact (hM _ _).1 | exact (hM _ _).2) (by first | omega | exact (hM _ _).1 | exact (hM _ _).2) (by first | omega | exact (hM _ _).1 | exact (hM _ _).2) (fun c16 => ?_) (fun c16 => ?_)
    · refine je_ps jb_X4_freeWalk 1 (pc' := 32) (ls' := [_]) (st' := [_]) rfl ?_
      exact je_ret jb_X4_freeWalk rfl (by rfl) ⟨by (first | rfl | (refine jv_t ?_; simp only [decide_eq_true_eq]; omega) | (refine jv_f ?_; simp only [decide_eq_false_iff_not]; omega) | (refine jv_I ?_; omega)), by (first | rfl | (refine jv_t ?_; simp only [decide_eq_true_eq]; omega) | (refine jv_f ?_; simp only [decide_eq_false_iff_not]; omega) | (refine jv_I ?_; omega))⟩
    · first | (exfalso; omega) | (cases c16; done) | (exfalso; simp_all; done)
theorem keepFreeWalk_t {c : Int} (hc : m 19 2 = c) : jq sc 1 jm_X4_keepFreeWalk [.ref 19] (jh m r T) (jP (some (.int (jI c))) (jh (jU m 19 (ju (m 19) 2 (c + 1))) r T)) := by
  refine je_in jb_X4_keepFreeWalk rfl (ls := [_]) rfl ?_
  refine je_ps jb_X4_keepFreeWalk 2 (pc' := 2) (ls' := [_]) (st' := [_, _]) rfl ?_
  refine je_get jb_X4_keepFreeWalk rfl (pc' := 5) rfl (jh_at (a := 19) rfl) (by rfl) (by rfl) ?_
  refine je_ps jb_X4_keepFreeWalk 1 (pc' := 6) (ls' := [_]) (st' := [_, _, _]) rfl ?_
  refine je_iadd jb_X4_keepFreeWalk rfl (pc' := 7) rfl ?_
  refine je_putI jb_X4_keepFreeWalk rfl (pc' := 10) rfl (j := 2) (a := 19) rfl (by rfl) (by rfl) (by rfl) (by rfl) ?_
  refine je_ps jb_X4_keepFreeWalk 1 (pc' := 11) (ls' := [_]) (st' := [_]) rfl ?_
  refine je_get jb_X4_keepFreeWalk rfl (pc' := 14) rfl (jh_at (a := 19) rfl) (by rfl) (by rfl) ?_
  refine je_ps jb_X4_keepFreeWalk 1 (pc' := 15) (ls' := [_]) (st' := [_, _]) rfl ?_
  refine je_isub jb_X4_keepFreeWalk rfl (pc' := 16) rfl ?_
  rw [jU_same, ju_same, hc]
  exact je_ret jb_X4_keepFreeWalk rfl (by rfl) ⟨jv_I (by omega), rfl⟩
theorem helperAt_t_t {i : Nat} {c : Int} {t : Nat} (hc : m 19 5 = c) (h6 : 0 ≤ c ∧ c ≤ 4) (hi : (i : Int) < c) (ht : r 22 i = .ref t) : jq sc 1 jm_X4_helperAt [.ref 19, .int (jI (i : Int))] (jh m r T) (jP (some (.ref t)) (jh m r T)) := by
  have h7 : i < 4 := by omega
  refine je_in jb_X4_helperAt rfl (ls := [_, _, _]) rfl ?_
  refine je_ps jb_X4_helperAt 1 (pc' := 1) (ls' := [_, _, _]) (st' := [_]) rfl ?_
  refine je_iflt jb_X4_helperAt rfl (t := 25) rfl (pc' := 4) rfl (by first | omega | exact (hM _ _).1 | exact (hM _ _).2) (by first | omega | exact (hM _ _).1 | exact (hM _ _).2) (fun c1 => ?_) (fun c1 => ?_)
  · first | (exfalso; omega) | (cases c1; done) | (exfalso; simp_all; done)
  · refine je_ps jb_X4_helperAt 2 (pc' := 6) (ls' := [_, _, _]) (st' := [_, _]) rfl ?_
    refine je_get jb_X4_helperAt rfl (pc' := 9) rfl (jh_at (a := 19) rfl) (by rfl) (by rfl) ?_
    refine je_icmpge jb_X4_helperAt rfl (t := 25) rfl (pc' := 12) rfl (by first | omega | exact (hM _ _).1 | exact (hM _ _).2) (by first | omega | exact (hM _ _).1 | exact (hM _ _).2) (by first | omega | exact (hM _ _).1 | exact (hM _ _).2) (by first | omega | exact (hM _ _).1 | exact (hM _ _).2) (fun c9 => ?_) (fun c9 => ?_)
    · first | (exfalso; omega) | (cases c9; done) | (exfalso; simp_all; done)
    · refine je_ps jb_X4_helperAt 2 (pc' := 14) (ls' := [_, _, _]) (st' := [_, _]) rfl ?_
      refine je_get jb_X4_helperAt rfl (pc' := 17) rfl (jh_at (a := 19) rfl) (by rfl) (by rfl) ?_
      refine je_alenr jb_X4_helperAt rfl (pc' := 18) rfl (jh_at (a := 22) rfl) rfl (n := 4) rfl ?_
      refine je_icmpge jb_X4_helperAt rfl (t := 25) rfl (pc' := 21) rfl (by first | omega | exact (hM _ _).1 | exact (hM _ _).2) (by first | omega | exact (hM _ _).1 | exact (hM _ _).2) (by first | omega | exact (hM _ _).1 | exact (hM _ _).2) (by first | omega | exact (hM _ _).1 | exact (hM _ _).2) (fun c18 => ?_) (fun c18 => ?_)
      · first | (exfalso; omega) | (cases c18; done) | (exfalso; simp_all; done)
      · refine je_ps jb_X4_helperAt 4 (pc' := 28) (ls' := [_, _, _]) (st' := [_]) rfl ?_
        refine je_ifeq jb_X4_helperAt rfl (t := 40) rfl (pc' := 31) rfl (by first | omega | exact (hM _ _).1 | exact (hM _ _).2) (by first | omega | exact (hM _ _).1 | exact (hM _ _).2) (fun c28 => ?_) (fun c28 => ?_)
        · first | (exfalso; omega) | (cases c28; done) | (exfalso; simp_all; done)
        · refine je_ps jb_X4_helperAt 1 (pc' := 32) (ls' := [_, _, _]) (st' := [_]) rfl ?_
          refine je_get jb_X4_helperAt rfl (pc' := 35) rfl (jh_at (a := 19) rfl) (by rfl) (by rfl) ?_
          refine je_ps jb_X4_helperAt 1 (pc' := 36) (ls' := [_, _, _]) (st' := [_, _]) rfl ?_
          refine je_aaln jb_X4_helperAt rfl (pc' := 37) rfl (jh_at (a := 22) rfl) rfl (n := 4) rfl (by first | omega | exact (hM _ _).1 | exact (hM _ _).2) (by first | omega | exact (hM _ _).1 | exact (hM _ _).2) (by first | omega | exact (hM _ _).1 | exact (hM _ _).2) ((jlt4 (P := fun i => (_ : List Value)[((i : Int)).toNat]? = some (r 22 i)) rfl rfl rfl rfl h7).trans (congrArg some ht)) ?_
          refine je_ps jb_X4_helperAt 1 (pc' := 41) (ls' := [_, _, _]) (st' := [_]) rfl ?_
          exact je_ret jb_X4_helperAt rfl (by rfl) ⟨by (first | rfl | (refine jv_t ?_; simp only [decide_eq_true_eq]; omega) | (refine jv_f ?_; simp only [decide_eq_false_iff_not]; omega) | (refine jv_I ?_; omega)), by (first | rfl | (refine jv_t ?_; simp only [decide_eq_true_eq]; omega) | (refine jv_f ?_; simp only [decide_eq_false_iff_not]; omega) | (refine jv_I ?_; omega))⟩
theorem helperAt_t_f {p c : Int} (hc : m 19 5 = c) (h6 : 0 ≤ c ∧ c ≤ 4) (hp : -2147483648 ≤ p ∧ p ≤ 2147483647) (hi : ¬ (0 ≤ p ∧ p < c)) : jq sc 1 jm_X4_helperAt [.ref 19, .int (jI p)] (jh m r T) (jP (some .null) (jh m r T)) := by
  refine je_in jb_X4_helperAt rfl (ls := [_, _, _]) rfl ?_
  refine je_ps jb_X4_helperAt 1 (pc' := 1) (ls' := [_, _, _]) (st' := [_]) rfl ?_
  refine je_iflt jb_X4_helperAt rfl (t := 25) rfl (pc' := 4) rfl (by first | omega | exact (hM _ _).1 | exact (hM _ _).2) (by first | omega | exact (hM _ _).1 | exact (hM _ _).2) (fun c1 => ?_) (fun c1 => ?_)
  · refine je_ps jb_X4_helperAt 3 (pc' := 28) (ls' := [_, _, _]) (st' := [_]) rfl ?_
    refine je_ifeq jb_X4_helperAt rfl (t := 40) rfl (pc' := 31) rfl (by first | omega | exact (hM _ _).1 | exact (hM _ _).2) (by first | omega | exact (hM _ _).1 | exact (hM _ _).2) (fun c28 => ?_) (fun c28 => ?_)
    · refine je_ps jb_X4_helperAt 1 (pc' := 41) (ls' := [_, _, _]) (st' := [_]) rfl ?_
      exact je_ret jb_X4_helperAt rfl (by rfl) ⟨by (first | rfl | (refine jv_t ?_; simp only [decide_eq_true_eq]; omega) | (refine jv_f ?_; simp only [decide_eq_false_iff_not]; omega) | (refine jv_I ?_; omega)), by (first | rfl | (refine jv_t ?_; simp only [decide_eq_true_eq]; omega) | (refine jv_f ?_; simp only [decide_eq_false_iff_not]; omega) | (refine jv_I ?_; omega))⟩
    · first | (exfalso; omega) | (cases c28; done) | (exfalso; simp_all; done)
  · refine je_ps jb_X4_helperAt 2 (pc' := 6) (ls' := [_, _, _]) (st' := [_, _]) rfl ?_
    refine je_get jb_X4_helperAt rfl (pc' := 9) rfl (jh_at (a := 19) rfl) (by rfl) (by rfl) ?_
    refine je_icmpge jb_X4_helperAt rfl (t := 25) rfl (pc' := 12) rfl (by first | omega | exact (hM _ _).1 | exact (hM _ _).2) (by first | omega | exact (hM _ _).1 | exact (hM _ _).2) (by first | omega | exact (hM _ _).1 | exact (hM _ _).2) (by first | omega | exact (hM _ _).1 | exact (hM _ _).2) (fun c9 => ?_) (fun c9 => ?_)
    · refine je_ps jb_X4_helperAt 3 (pc' := 28) (ls' := [_, _, _]) (st' := [_]) rfl ?_
      refine je_ifeq jb_X4_helperAt rfl (t := 40) rfl (pc' := 31) rfl (by first | omega | exact (hM _ _).1 | exact (hM _ _).2) (by first | omega | exact (hM _ _).1 | exact (hM _ _).2) (fun c28 => ?_) (fun c28 => ?_)
      · refine je_ps jb_X4_helperAt 1 (pc' := 41) (ls' := [_, _, _]) (st' := [_]) rfl ?_
        exact je_ret jb_X4_helperAt rfl (by rfl) ⟨by (first | rfl | (refine jv_t ?_; simp only [decide_eq_true_eq]; omega) | (refine jv_f ?_; simp only [decide_eq_false_iff_not]; omega) | (refine jv_I ?_; omega)), by (first | rfl | (refine jv_t ?_; simp only [decide_eq_true_eq]; omega) | (refine jv_f ?_; simp only [decide_eq_false_iff_not]; omega) | (refine jv_I ?_; omega))⟩
      · first | (exfalso; omega) | (cases c28; done) | (exfalso; simp_all; done)
    · refine je_ps jb_X4_helperAt 2 (pc' := 14) (ls' := [_, _, _]) (st' := [_, _]) rfl ?_
      refine je_get jb_X4_helperAt rfl (pc' := 17) rfl (jh_at (a := 19) rfl) (by rfl) (by rfl) ?_
      refine je_alenr jb_X4_helperAt rfl (pc' := 18) rfl (jh_at (a := 22) rfl) rfl (n := 4) rfl ?_
      refine je_icmpge jb_X4_helperAt rfl (t := 25) rfl (pc' := 21) rfl (by first | omega | exact (hM _ _).1 | exact (hM _ _).2) (by first | omega | exact (hM _ _).1 | exact (hM _ _).2) (by first | omega | exact (hM _ _).1 | exact (hM _ _).2) (by first | omega | exact (hM _ _).1 | exact (hM _ _).2) (fun c18 => ?_) (fun c18 => ?_)
      · refine je_ps jb_X4_helperAt 3 (pc' := 28) (ls' := [_, _, _]) (st' := [_]) rfl ?_
        refine je_ifeq jb_X4_helperAt rfl (t := 40) rfl (pc' := 31) rfl (by first | omega | exact (hM _ _).1 | exact (hM _ _).2) (by first | omega | exact (hM _ _).1 | exact (hM _ _).2) (fun c28 => ?_) (fun c28 => ?_)
        · refine je_ps jb_X4_helperAt 1 (pc' := 41) (ls' := [_, _, _]) (st' := [_]) rfl ?_
          exact je_ret jb_X4_helperAt rfl (by rfl) ⟨by (first | rfl | (refine jv_t ?_; simp only [decide_eq_true_eq]; omega) | (refine jv_f ?_; simp only [decide_eq_false_iff_not]; omega) | (refine jv_I ?_; omega)), by (first | rfl | (refine jv_t ?_; simp only [decide_eq_true_eq]; omega) | (refine jv_f ?_; simp only [decide_eq_false_iff_not]; omega) | (refine jv_I ?_; omega))⟩
        · first | (exfalso; omega) | (cases c28; done) | (exfalso; simp_all; done)
      · exfalso; omega
end C22
