/-! HELPERS -/
section C23
variable {sc : Nat × (Nat → Int32)} {m : Nat → Int → Int} {r : Nat → Nat → Value} {T : jx_H} {σ : jx_H} {a b N h : Nat} {f : Int → Int} {z fig : Int}
theorem jRs_ne {a b N h : Nat} {f : Int → Int} {z : Int} (ha : h ≠ a) (hb : h ≠ b) : (jRs σ a b N f z)[h]? = σ[h]? := by
  unfold jRs
  rw [jset_ne ha, jset_ne hb]
def sp6 (fig : Int) : List Int := List.replicate (fig + 1).toNat 0
def sp9 (fig : Int) : List Int := 2 :: sp6 fig
def sp0 (fig : Int) : List Int := sp6 fig ++ [3]
def sp7 (fig : Int) : List Int := sp9 fig ++ sp9 fig
def sp1 (fig : Int) : List Int := List.replicate fig.toNat 2 ++ sp9 fig
def sp2 (fig : Int) : List Int := sp0 fig ++ [1]
theorem k6_spell_6 (g : jRw σ a b N f z) (gh : σ[h]? = some (6, [.int (jI fig)])) (hf : 0 ≤ fig ∧ fig ≤ 9) : jq sc 3 jm_X6_spell [.ref h, .ref a] σ (jP none (jRs σ a b N (fRAl N (f, z) (sp6 fig)).1 (fRAl N (f, z) (sp6 fig)).2)) := by
  refine je_in jb_X6_spell rfl (ls := [_, _]) rfl ?_
  refine je_ps jb_X6_spell 3 (pc' := 3) (ls' := [_, _]) (st' := [_, _, _]) rfl ?_
  refine je_get jb_X6_spell rfl (pc' := 6) rfl (gh) (by rfl) (by rfl) ?_
  refine je_ps jb_X6_spell 1 (pc' := 7) (ls' := [_, _]) (st' := [_, _, _, _]) rfl ?_
  refine je_iadd jb_X6_spell rfl (pc' := 8) rfl ?_
  refine je_cvP' jb_X6_spell rfl (pc' := 11) rfl (g.1) (by rfl) (by first | decide | exact Nat.ble_eq_true_of_le (by omega)) (k_raddMany g (by omega) (by omega)) (st' := []) rfl ?_
  exact je_ret jb_X6_spell rfl (by rfl) ⟨by (first | rfl | (refine jv_t ?_; simp only [decide_eq_true_eq]; omega) | (refine jv_f ?_; simp only [decide_eq_false_iff_not]; omega) | (refine jv_I ?_; omega)), by (first | rfl | (refine jv_t ?_; simp only [decide_eq_true_eq]; omega) | (refine jv_f ?_; simp only [decide_eq_false_iff_not]; omega) | (refine jv_I ?_; omega))⟩
theorem k6_init_6 (gh : σ[h]? = some (6, [.int (jI 0)])) : jq sc 1 jm_X6_init [.ref h, .int (jI fig)] σ (jP none (σ.set h (6, [.int (jI fig)]))) := by
  refine je_in jb_X6_init rfl (ls := [_, _]) rfl ?_
  refine je_ps jb_X6_init 1 (pc' := 1) (ls' := [_, _]) (st' := [_]) rfl ?_
  refine je_oi jb_X6_init rfl (pc' := 4) rfl rfl rfl ?_
  refine je_ps jb_X6_init 2 (pc' := 6) (ls' := [_, _]) (st' := [_, _]) rfl ?_
  refine je_put jb_X6_init rfl (pc' := 9) rfl (gh) (by rfl) (by rfl) (by rfl) (by rfl) ?_
  exact je_ret jb_X6_init rfl (by rfl) ⟨by (first | rfl | (refine jv_t ?_; simp only [decide_eq_true_eq]; omega) | (refine jv_f ?_; simp only [decide_eq_false_iff_not]; omega) | (refine jv_I ?_; omega)), by (first | rfl | (refine jv_t ?_; simp only [decide_eq_true_eq]; omega) | (refine jv_f ?_; simp only [decide_eq_false_iff_not]; omega) | (refine jv_I ?_; omega))⟩
theorem k6_spell_9 (g : jRw σ a b N f z) (gh : σ[h]? = some (9, [.int (jI fig)])) (hf : 0 ≤ fig ∧ fig ≤ 9) : jq sc 3 jm_X6_spell [.ref h, .ref a] σ (jP none (jRs σ a b N (fRAl N (f, z) (sp6 fig)).1 (fRAl N (f, z) (sp6 fig)).2)) := by
  refine je_in jb_X6_spell rfl (ls := [_, _]) rfl ?_
  refine je_ps jb_X6_spell 3 (pc' := 3) (ls' := [_, _]) (st' := [_, _, _]) rfl ?_
  refine je_get jb_X6_spell rfl (pc' := 6) rfl (gh) (by rfl) (by rfl) ?_
  refine je_ps jb_X6_spell 1 (pc' := 7) (ls' := [_, _]) (st' := [_, _, _, _]) rfl ?_
  refine je_iadd jb_X6_spell rfl (pc' := 8) rfl ?_
  refine je_cvP' jb_X6_spell rfl (pc' := 11) rfl (g.1) (by rfl) (by first | decide | exact Nat.ble_eq_true_of_le (by omega)) (k_raddMany g (by omega) (by omega)) (st' := []) rfl ?_
  exact je_ret jb_X6_spell rfl (by rfl) ⟨by (first | rfl | (refine jv_t ?_; simp only [decide_eq_true_eq]; omega) | (refine jv_f ?_; simp only [decide_eq_false_iff_not]; omega) | (refine jv_I ?_; omega)), by (first | rfl | (refine jv_t ?_; simp only [decide_eq_true_eq]; omega) | (refine jv_f ?_; simp only [decide_eq_false_iff_not]; omega) | (refine jv_I ?_; omega))⟩
theorem k6_init_9 (gh : σ[h]? = some (9, [.int (jI 0)])) : jq sc 1 jm_X6_init [.ref h, .int (jI fig)] σ (jP none (σ.set h (9, [.int (jI fig)]))) := by
  refine je_in jb_X6_init rfl (ls := [_, _]) rfl ?_
  refine je_ps jb_X6_init 1 (pc' := 1) (ls' := [_, _]) (st' := [_]) rfl ?_
  refine je_oi jb_X6_init rfl (pc' := 4) rfl rfl rfl ?_
  refine je_ps jb_X6_init 2 (pc' := 6) (ls' := [_, _]) (st' := [_, _]) rfl ?_
  refine je_put jb_X6_init rfl (pc' := 9) rfl (gh) (by rfl) (by rfl) (by rfl) (by rfl) ?_
  exact je_ret jb_X6_init rfl (by rfl) ⟨by (first | rfl | (refine jv_t ?_; simp only [decide_eq_true_eq]; omega) | (refine jv_f ?_; simp only [decide_eq_false_iff_not]; omega) | (refine jv_I ?_; omega)), by (first | rfl | (refine jv_t ?_; simp only [decide_eq_true_eq]; omega) | (refine jv_f ?_; simp only [decide_eq_false_iff_not]; omega) | (refine jv_I ?_; omega))⟩
theorem k6_spell_0 (g : jRw σ a b N f z) (gh : σ[h]? = some (0, [.int (jI fig)])) (hf : 0 ≤ fig ∧ fig ≤ 9) : jq sc 3 jm_X6_spell [.ref h, .ref a] σ (jP none (jRs σ a b N (fRAl N (f, z) (sp6 fig)).1 (fRAl N (f, z) (sp6 fig)).2)) := by
  refine je_in jb_X6_spell rfl (ls := [_, _]) rfl ?_
  refine je_ps jb_X6_spell 3 (pc' := 3) (ls' := [_, _]) (st' := [_, _, _]) rfl ?_
  refine je_get jb_X6_spell rfl (pc' := 6) rfl (gh) (by rfl) (by rfl) ?_
  refine je_ps jb_X6_spell 1 (pc' := 7) (ls' := [_, _]) (st' := [_, _, _, _]) rfl ?_
  refine je_iadd jb_X6_spell rfl (pc' := 8) rfl ?_
  refine je_cvP' jb_X6_spell rfl (pc' := 11) rfl (g.1) (by rfl) (by first | decide | exact Nat.ble_eq_true_of_le (by omega)) (k_raddMany g (by omega) (by omega)) (st' := []) rfl ?_
  exact je_ret jb_X6_spell rfl (by rfl) ⟨by (first | rfl | (refine jv_t ?_; simp only [decide_eq_true_eq]; omega) | (refine jv_f ?_; simp only [decide_eq_false_iff_not]; omega) | (refine jv_I ?_; omega)), by (first | rfl | (refine jv_t ?_; simp only [decide_eq_true_eq]; omega) | (refine jv_f ?_; simp only [decide_eq_false_iff_not]; omega) | (refine jv_I ?_; omega))⟩
theorem k6_init_0 (gh : σ[h]? = some (0, [.int (jI 0)])) : jq sc 1 jm_X6_init [.ref h, .int (jI fig)] σ (jP none (σ.set h (0, [.int (jI fig)]))) := by
  refine je_in jb_X6_init rfl (ls := [_, _]) rfl ?_
  refine je_ps jb_X6_init 1 (pc' := 1) (ls' := [_, _]) (st' := [_]) rfl ?_
  refine je_oi jb_X6_init rfl (pc' := 4) rfl rfl rfl ?_
  refine je_ps jb_X6_init 2 (pc' := 6) (ls' := [_, _]) (st' := [_, _]) rfl ?_
  refine je_put jb_X6_init rfl (pc' := 9) rfl (gh) (by rfl) (by rfl) (by rfl) (by rfl) ?_
  exact je_ret jb_X6_init rfl (by rfl) ⟨by (first | rfl | (refine jv_t ?_; simp only [decide_eq_true_eq]; omega) | (refine jv_f ?_; simp only [decide_eq_false_iff_not]; omega) | (refine jv_I ?_; omega)), by (first | rfl | (refine jv_t ?_; simp only [decide_eq_true_eq]; omega) | (refine jv_f ?_; simp only [decide_eq_false_iff_not]; omega) | (refine jv_I ?_; omega))⟩
theorem k6_spell_7 (g : jRw σ a b N f z) (gh : σ[h]? = some (7, [.int (jI fig)])) (hf : 0 ≤ fig ∧ fig ≤ 9) : jq sc 3 jm_X6_spell [.ref h, .ref a] σ (jP none (jRs σ a b N (fRAl N (f, z) (sp6 fig)).1 (fRAl N (f, z) (sp6 fig)).2)) := by
  refine je_in jb_X6_spell rfl (ls := [_, _]) rfl ?_
  refine je_ps jb_X6_spell 3 (pc' := 3) (ls' := [_, _]) (st' := [_, _, _]) rfl ?_
  refine je_get jb_X6_spell rfl (pc' := 6) rfl (gh) (by rfl) (by rfl) ?_
  refine je_ps jb_X6_spell 1 (pc' := 7) (ls' := [_, _]) (st' := [_, _, _, _]) rfl ?_
  refine je_iadd jb_X6_spell rfl (pc' := 8) rfl ?_
  refine je_cvP' jb_X6_spell rfl (pc' := 11) rfl (g.1) (by rfl) (by first | decide | exact Nat.ble_eq_true_of_le (by omega)) (k_raddMany g (by omega) (by omega)) (st' := []) rfl ?_
  exact je_ret jb_X6_spell rfl (by rfl) ⟨by (first | rfl | (refine jv_t ?_; simp only [decide_eq_true_eq]; omega) | (refine jv_f ?_; simp only [decide_eq_false_iff_not]; omega) | (refine jv_I ?_; omega)), by (first | rfl | (refine jv_t ?_; simp only [decide_eq_true_eq]; omega) | (refine jv_f ?_; simp only [decide_eq_false_iff_not]; omega) | (refine jv_I ?_; omega))⟩
theorem k6_init_7 (gh : σ[h]? = some (7, [.int (jI 0)])) : jq sc 1 jm_X6_init [.ref h, .int (jI fig)] σ (jP none (σ.set h (7, [.int (jI fig)]))) := by
  refine je_in jb_X6_init rfl (ls := [_, _]) rfl ?_
  refine je_ps jb_X6_init 1 (pc' := 1) (ls' := [_, _]) (st' := [_]) rfl ?_
  refine je_oi jb_X6_init rfl (pc' := 4) rfl rfl rfl ?_
  refine je_ps jb_X6_init 2 (pc' := 6) (ls' := [_, _]) (st' := [_, _]) rfl ?_
  refine je_put jb_X6_init rfl (pc' := 9) rfl (gh) (by rfl) (by rfl) (by rfl) (by rfl) ?_
  exact je_ret jb_X6_init rfl (by rfl) ⟨by (first | rfl | (refine jv_t ?_; simp only [decide_eq_true_eq]; omega) | (refine jv_f ?_; simp only [decide_eq_false_iff_not]; omega) | (refine jv_I ?_; omega)), by (first | rfl | (refine jv_t ?_; simp only [decide_eq_true_eq]; omega) | (refine jv_f ?_; simp only [decide_eq_false_iff_not]; omega) | (refine jv_I ?_; omega))⟩
theorem k6_spell_1 (g : jRw σ a b N f z) (gh : σ[h]? = some (1, [.int (jI fig)])) (hf : 0 ≤ fig ∧ fig ≤ 9) : jq sc 3 jm_X6_spell [.ref h, .ref a] σ (jP none (jRs σ a b N (fRAl N (f, z) (sp6 fig)).1 (fRAl N (f, z) (sp6 fig)).2)) := by
  refine je_in jb_X6_spell rfl (ls := [_, _]) rfl ?_
  refine je_ps jb_X6_spell 3 (pc' := 3) (ls' := [_, _]) (st' := [_, _, _]) rfl ?_
  refine je_get jb_X6_spell rfl (pc' := 6) rfl (gh) (by rfl) (by rfl) ?_
  refine je_ps jb_X6_spell 1 (pc' := 7) (ls' := [_, _]) (st' := [_, _, _, _]) rfl ?_
  refine je_iadd jb_X6_spell rfl (pc' := 8) rfl ?_
  refine je_cvP' jb_X6_spell rfl (pc' := 11) rfl (g.1) (by rfl) (by first | decide | exact Nat.ble_eq_true_of_le (by omega)) (k_raddMany g (by omega) (by omega)) (st' := []) rfl ?_
  exact je_ret jb_X6_spell rfl (by rfl) ⟨by (first | rfl | (refine jv_t ?_; simp only [decide_eq_true_eq]; omega) | (refine jv_f ?_; simp only [decide_eq_false_iff_not]; omega) | (refine jv_I ?_; omega)), by (first | rfl | (refine jv_t ?_; simp only [decide_eq_true_eq]; omega) | (refine jv_f ?_; simp only [decide_eq_false_iff_not]; omega) | (refine jv_I ?_; omega))⟩
theorem k6_init_1 (gh : σ[h]? = some (1, [.int (jI 0)])) : jq sc 1 jm_X6_init [.ref h, .int (jI fig)] σ (jP none (σ.set h (1, [.int (jI fig)]))) := by
  refine je_in jb_X6_init rfl (ls := [_, _]) rfl ?_
  refine je_ps jb_X6_init 1 (pc' := 1) (ls' := [_, _]) (st' := [_]) rfl ?_
  refine je_oi jb_X6_init rfl (pc' := 4) rfl rfl rfl ?_
  refine je_ps jb_X6_init 2 (pc' := 6) (ls' := [_, _]) (st' := [_, _]) rfl ?_
  refine je_put jb_X6_init rfl (pc' := 9) rfl (gh) (by rfl) (by rfl) (by rfl) (by rfl) ?_
  exact je_ret jb_X6_init rfl (by rfl) ⟨by (first | rfl | (refine jv_t ?_; simp only [decide_eq_true_eq]; omega) | (refine jv_f ?_; simp only [decide_eq_false_iff_not]; omega) | (refine jv_I ?_; omega)), by (first | rfl | (refine jv_t ?_; simp only [decide_eq_true_eq]; omega) | (refine jv_f ?_; simp only [decide_eq_false_iff_not]; omega) | (refine jv_I ?_; omega))⟩
theorem k6_spell_2 (g : jRw σ a b N f z) (gh : σ[h]? = some (2, [.int (jI fig)])) (hf : 0 ≤ fig ∧ fig ≤ 9) : jq sc 3 jm_X6_spell [.ref h, .ref a] σ (jP none (jRs σ a b N (fRAl N (f, z) (sp6 fig)).1 (fRAl N (f, z) (sp6 fig)).2)) := by
  refine je_in jb_X6_spell rfl (ls := [_, _]) rfl ?_
  refine je_ps jb_X6_spell 3 (pc' := 3) (ls' := [_, _]) (st' := [_, _, _]) rfl ?_
  refine je_get jb_X6_spell rfl (pc' := 6) rfl (gh) (by rfl) (by rfl) ?_
  refine je_ps jb_X6_spell 1 (pc' := 7) (ls' := [_, _]) (st' := [_, _, _, _]) rfl ?_
  refine je_iadd jb_X6_spell rfl (pc' := 8) rfl ?_
  refine je_cvP' jb_X6_spell rfl (pc' := 11) rfl (g.1) (by rfl) (by first | decide | exact Nat.ble_eq_true_of_le (by omega)) (k_raddMany g (by omega) (by omega)) (st' := []) rfl ?_
  exact je_ret jb_X6_spell rfl (by rfl) ⟨by (first | rfl | (refine jv_t ?_; simp only [decide_eq_true_eq]; omega) | (refine jv_f ?_; simp only [decide_eq_false_iff_not]; omega) | (refine jv_I ?_; omega)), by (first | rfl | (refine jv_t ?_; simp only [decide_eq_true_eq]; omega) | (refine jv_f ?_; simp only [decide_eq_false_iff_not]; omega) | (refine jv_I ?_; omega))⟩
theorem k6_init_2 (gh : σ[h]? = some (2, [.int (jI 0)])) : jq sc 1 jm_X6_init [.ref h, .int (jI fig)] σ (jP none (σ.set h (2, [.int (jI fig)]))) := by
  refine je_in jb_X6_init rfl (ls := [_, _]) rfl ?_
  refine je_ps jb_X6_init 1 (pc' := 1) (ls' := [_, _]) (st' := [_]) rfl ?_
  refine je_oi jb_X6_init rfl (pc' := 4) rfl rfl rfl ?_
  refine je_ps jb_X6_init 2 (pc' := 6) (ls' := [_, _]) (st' := [_, _]) rfl ?_
  refine je_put jb_X6_init rfl (pc' := 9) rfl (gh) (by rfl) (by rfl) (by rfl) (by rfl) ?_
  exact je_ret jb_X6_init rfl (by rfl) ⟨by (first | rfl | (refine jv_t ?_; simp only [decide_eq_true_eq]; omega) | (refine jv_f ?_; simp only [decide_eq_false_iff_not]; omega) | (refine jv_I ?_; omega)), by (first | rfl | (refine jv_t ?_; simp only [decide_eq_true_eq]; omega) | (refine jv_f ?_; simp only [decide_eq_false_iff_not]; omega) | (refine jv_I ?_; omega))⟩
theorem k9_spell_9 (g : jRw σ a b N f z) (gh : σ[h]? = some (9, [.int (jI fig)])) (ha : h ≠ a) (hb : h ≠ b) (hf : 0 ≤ fig ∧ fig ≤ 9) : jq sc 4 jm_X9_spell [.ref h, .ref a] σ (jP none (jRs σ a b N (fRAl N (f, z) (sp9 fig)).1 (fRAl N (f, z) (sp9 fig)).2)) := by
  have gz := g.2.2.2
  have g0 := g
  have gi := fRA_i (N := N) (q := (f, z)) (x := 2) ⟨gz.1, gz.2.1⟩
  refine je_in jb_X9_spell rfl (ls := [_, _]) rfl ?_
  refine je_ps jb_X9_spell 2 (pc' := 2) (ls' := [_, _]) (st' := [_, _]) rfl ?_
  refine je_cvP' jb_X9_spell rfl (pc' := 5) rfl (g.1) (by rfl) (by first | decide | exact Nat.ble_eq_true_of_le (by omega)) (k_radd g (by omega)) (st' := [_]) rfl ?_
  have g := g0.s (fRA N (f, z) 2).1 gi.1 gi.2
  have gh := (jRs_ne (σ := σ) (N := N) (f := (fRA N (f, z) 2).1) (z := (fRA N (f, z) 2).2) ha hb).trans gh
  refine je_ps jb_X9_spell 3 (pc' := 8) (ls' := [_, _]) (st' := [_, _]) rfl ?_
  refine je_cvP' jb_X9_spell rfl (pc' := 11) rfl (gh) (by rfl) (by first | decide | exact Nat.ble_eq_true_of_le (by omega)) (k6_spell_9 g gh hf) (st' := []) rfl ?_
  exact je_ret jb_X9_spell rfl (by rfl) ⟨rfl, by rw [jRs_jRs g0.2.2.1]; rfl⟩
theorem k9_init_9 (gh : σ[h]? = some (9, [.int (jI 0)])) : jq sc 2 jm_X9_init [.ref h, .int (jI fig)] σ (jP none (σ.set h (9, [.int (jI fig)]))) := by
  refine je_in jb_X9_init rfl (ls := [_, _]) rfl ?_
  refine je_ps jb_X9_init 2 (pc' := 2) (ls' := [_, _]) (st' := [_, _]) rfl ?_
  refine je_cvP' jb_X9_init rfl (pc' := 5) rfl (gh) (by rfl) (by first | decide | exact Nat.ble_eq_true_of_le (by omega)) (k6_init_9 gh) (st' := []) rfl ?_
  exact je_ret jb_X9_init rfl (by rfl) ⟨by (first | rfl | (refine jv_t ?_; simp only [decide_eq_true_eq]; omega) | (refine jv_f ?_; simp only [decide_eq_false_iff_not]; omega) | (refine jv_I ?_; omega)), by (first | rfl | (refine jv_t ?_; simp only [decide_eq_true_eq]; omega) | (refine jv_f ?_; simp only [decide_eq_false_iff_not]; omega) | (refine jv_I ?_; omega))⟩
theorem k9_spell_7 (g : jRw σ a b N f z) (gh : σ[h]? = some (7, [.int (jI fig)])) (ha : h ≠ a) (hb : h ≠ b) (hf : 0 ≤ fig ∧ fig ≤ 9) : jq sc 4 jm_X9_spell [.ref h, .ref a] σ (jP none (jRs σ a b N (fRAl N (f, z) (sp9 fig)).1 (fRAl N (f, z) (sp9 fig)).2)) := by
  have gz := g.2.2.2
  have g0 := g
  have gi := fRA_i (N := N) (q := (f, z)) (x := 2) ⟨gz.1, gz.2.1⟩
  refine je_in jb_X9_spell rfl (ls := [_, _]) rfl ?_
  refine je_ps jb_X9_spell 2 (pc' := 2) (ls' := [_, _]) (st' := [_, _]) rfl ?_
  refine je_cvP' jb_X9_spell rfl (pc' := 5) rfl (g.1) (by rfl) (by first | decide | exact Nat.ble_eq_true_of_le (by omega)) (k_radd g (by omega)) (st' := [_]) rfl ?_
  have g := g0.s (fRA N (f, z) 2).1 gi.1 gi.2
  have gh := (jRs_ne (σ := σ) (N := N) (f := (fRA N (f, z) 2).1) (z := (fRA N (f, z) 2).2) ha hb).trans gh
  refine je_ps jb_X9_spell 3 (pc' := 8) (ls' := [_, _]) (st' := [_, _]) rfl ?_
  refine je_cvP' jb_X9_spell rfl (pc' := 11) rfl (gh) (by rfl) (by first | decide | exact Nat.ble_eq_true_of_le (by omega)) (k6_spell_7 g gh hf) (st' := []) rfl ?_
  exact je_ret jb_X9_spell rfl (by rfl) ⟨rfl, by rw [jRs_jRs g0.2.2.1]; rfl⟩
theorem k9_init_7 (gh : σ[h]? = some (7, [.int (jI 0)])) : jq sc 2 jm_X9_init [.ref h, .int (jI fig)] σ (jP none (σ.set h (7, [.int (jI fig)]))) := by
  refine je_in jb_X9_init rfl (ls := [_, _]) rfl ?_
  refine je_ps jb_X9_init 2 (pc' := 2) (ls' := [_, _]) (st' := [_, _]) rfl ?_
  refine je_cvP' jb_X9_init rfl (pc' := 5) rfl (gh) (by rfl) (by first | decide | exact Nat.ble_eq_true_of_le (by omega)) (k6_init_7 gh) (st' := []) rfl ?_
  exact je_ret jb_X9_init rfl (by rfl) ⟨by (first | rfl | (refine jv_t ?_; simp only [decide_eq_true_eq]; omega) | (refine jv_f ?_; simp only [decide_eq_false_iff_not]; omega) | (refine jv_I ?_; omega)), by (first | rfl | (refine jv_t ?_; simp only [decide_eq_true_eq]; omega) | (refine jv_f ?_; simp only [decide_eq_false_iff_not]; omega) | (refine jv_I ?_; omega))⟩
theorem k9_spell_1 (g : jRw σ a b N f z) (gh : σ[h]? = some (1, [.int (jI fig)])) (ha : h ≠ a) (hb : h ≠ b) (hf : 0 ≤ fig ∧ fig ≤ 9) : jq sc 4 jm_X9_spell [.ref h, .ref a] σ (jP none (jRs σ a b N (fRAl N (f, z) (sp9 fig)).1 (fRAl N (f, z) (sp9 fig)).2)) := by
  have gz := g.2.2.2
  have g0 := g
  have gi := fRA_i (N := N) (q := (f, z)) (x := 2) ⟨gz.1, gz.2.1⟩
  refine je_in jb_X9_spell rfl (ls := [_, _]) rfl ?_
  refine je_ps jb_X9_spell 2 (pc' := 2) (ls' := [_, _]) (st' := [_, _]) rfl ?_
  refine je_cvP' jb_X9_spell rfl (pc' := 5) rfl (g.1) (by rfl) (by first | decide | exact Nat.ble_eq_true_of_le (by omega)) (k_radd g (by omega)) (st' := [_]) rfl ?_
  have g := g0.s (fRA N (f, z) 2).1 gi.1 gi.2
  have gh := (jRs_ne (σ := σ) (N := N) (f := (fRA N (f, z) 2).1) (z := (fRA N (f, z) 2).2) ha hb).trans gh
  refine je_ps jb_X9_spell 3 (pc' := 8) (ls' := [_, _]) (st' := [_, _]) rfl ?_
  refine je_cvP' jb_X9_spell rfl (pc' := 11) rfl (gh) (by rfl) (by first | decide | exact Nat.ble_eq_true_of_le (by omega)) (k6_spell_1 g gh hf) (st' := []) rfl ?_
  exact je_ret jb_X9_spell rfl (by rfl) ⟨rfl, by rw [jRs_jRs g0.2.2.1]; rfl⟩
theorem k9_init_1 (gh : σ[h]? = some (1, [.int (jI 0)])) : jq sc 2 jm_X9_init [.ref h, .int (jI fig)] σ (jP none (σ.set h (1, [.int (jI fig)]))) := by
  refine je_in jb_X9_init rfl (ls := [_, _]) rfl ?_
  refine je_ps jb_X9_init 2 (pc' := 2) (ls' := [_, _]) (st' := [_, _]) rfl ?_
  refine je_cvP' jb_X9_init rfl (pc' := 5) rfl (gh) (by rfl) (by first | decide | exact Nat.ble_eq_true_of_le (by omega)) (k6_init_1 gh) (st' := []) rfl ?_
  exact je_ret jb_X9_init rfl (by rfl) ⟨by (first | rfl | (refine jv_t ?_; simp only [decide_eq_true_eq]; omega) | (refine jv_f ?_; simp only [decide_eq_false_iff_not]; omega) | (refine jv_I ?_; omega)), by (first | rfl | (refine jv_t ?_; simp only [decide_eq_true_eq]; omega) | (refine jv_f ?_; simp only [decide_eq_false_iff_not]; omega) | (refine jv_I ?_; omega))⟩
theorem k0_spell_0 (g : jRw σ a b N f z) (gh : σ[h]? = some (0, [.int (jI fig)])) (hf : 0 ≤ fig ∧ fig ≤ 9) : jq sc 4 jm_X0_spell [.ref h, .ref a] σ (jP none (jRs σ a b N (fRAl N (f, z) (sp0 fig)).1 (fRAl N (f, z) (sp0 fig)).2)) := by
  have gz := g.2.2.2
  have g0 := g
  have gi := fRAl_i (N := N) (sp6 fig) (q := (f, z)) ⟨gz.1, gz.2.1⟩
  refine je_in jb_X0_spell rfl (ls := [_, _]) rfl ?_
  refine je_ps jb_X0_spell 2 (pc' := 2) (ls' := [_, _]) (st' := [_, _]) rfl ?_
  refine je_cvP' jb_X0_spell rfl (pc' := 5) rfl (gh) (by rfl) (by first | decide | exact Nat.ble_eq_true_of_le (by omega)) (k6_spell_0 g gh hf) (st' := []) rfl ?_
  have g := g0.s (fRAl N (f, z) (sp6 fig)).1 gi.1 gi.2
  refine je_ps jb_X0_spell 2 (pc' := 7) (ls' := [_, _]) (st' := [_, _]) rfl ?_
  refine je_cvP' jb_X0_spell rfl (pc' := 10) rfl (g.1) (by rfl) (by first | decide | exact Nat.ble_eq_true_of_le (by omega)) (k_radd g (by omega)) (st' := [_]) rfl ?_
  refine je_ps jb_X0_spell 1 (pc' := 11) (ls' := [_, _]) (st' := []) rfl ?_
  exact je_ret jb_X0_spell rfl (by rfl) ⟨rfl, by rw [jRs_jRs g0.2.2.1, sp0, ← fRAl_1]⟩
theorem k0_init_0 (gh : σ[h]? = some (0, [.int (jI 0)])) : jq sc 2 jm_X0_init [.ref h, .int (jI fig)] σ (jP none (σ.set h (0, [.int (jI fig)]))) := by
  refine je_in jb_X0_init rfl (ls := [_, _]) rfl ?_
  refine je_ps jb_X0_init 2 (pc' := 2) (ls' := [_, _]) (st' := [_, _]) rfl ?_
  refine je_cvP' jb_X0_init rfl (pc' := 5) rfl (gh) (by rfl) (by first | decide | exact Nat.ble_eq_true_of_le (by omega)) (k6_init_0 gh) (st' := []) rfl ?_
  exact je_ret jb_X0_init rfl (by rfl) ⟨by (first | rfl | (refine jv_t ?_; simp only [decide_eq_true_eq]; omega) | (refine jv_f ?_; simp only [decide_eq_false_iff_not]; omega) | (refine jv_I ?_; omega)), by (first | rfl | (refine jv_t ?_; simp only [decide_eq_true_eq]; omega) | (refine jv_f ?_; simp only [decide_eq_false_iff_not]; omega) | (refine jv_I ?_; omega))⟩
theorem k0_spell_2 (g : jRw σ a b N f z) (gh : σ[h]? = some (2, [.int (jI fig)])) (hf : 0 ≤ fig ∧ fig ≤ 9) : jq sc 4 jm_X0_spell [.ref h, .ref a] σ (jP none (jRs σ a b N (fRAl N (f, z) (sp0 fig)).1 (fRAl N (f, z) (sp0 fig)).2)) := by
  have gz := g.2.2.2
  have g0 := g
  have gi := fRAl_i (N := N) (sp6 fig) (q := (f, z)) ⟨gz.1, gz.2.1⟩
  refine je_in jb_X0_spell rfl (ls := [_, _]) rfl ?_
  refine je_ps jb_X0_spell 2 (pc' := 2) (ls' := [_, _]) (st' := [_, _]) rfl ?_
  refine je_cvP' jb_X0_spell rfl (pc' := 5) rfl (gh) (by rfl) (by first | decide | exact Nat.ble_eq_true_of_le (by omega)) (k6_spell_2 g gh hf) (st' := []) rfl ?_
  have g := g0.s (fRAl N (f, z) (sp6 fig)).1 gi.1 gi.2
  refine je_ps jb_X0_spell 2 (pc' := 7) (ls' := [_, _]) (st' := [_, _]) rfl ?_
  refine je_cvP' jb_X0_spell rfl (pc' := 10) rfl (g.1) (by rfl) (by first | decide | exact Nat.ble_eq_true_of_le (by omega)) (k_radd g (by omega)) (st' := [_]) rfl ?_
  refine je_ps jb_X0_spell 1 (pc' := 11) (ls' := [_, _]) (st' := []) rfl ?_
  exact je_ret jb_X0_spell rfl (by rfl) ⟨rfl, by rw [jRs_jRs g0.2.2.1, sp0, ← fRAl_1]⟩
theorem k0_init_2 (gh : σ[h]? = some (2, [.int (jI 0)])) : jq sc 2 jm_X0_init [.ref h, .int (jI fig)] σ (jP none (σ.set h (2, [.int (jI fig)]))) := by
  refine je_in jb_X0_init rfl (ls := [_, _]) rfl ?_
  refine je_ps jb_X0_init 2 (pc' := 2) (ls' := [_, _]) (st' := [_, _]) rfl ?_
  refine je_cvP' jb_X0_init rfl (pc' := 5) rfl (gh) (by rfl) (by first | decide | exact Nat.ble_eq_true_of_le (by omega)) (k6_init_2 gh) (st' := []) rfl ?_
  exact je_ret jb_X0_init rfl (by rfl) ⟨by (first | rfl | (refine jv_t ?_; simp only [decide_eq_true_eq]; omega) | (refine jv_f ?_; simp only [decide_eq_false_iff_not]; omega) | (refine jv_I ?_; omega)), by (first | rfl | (refine jv_t ?_; simp only [decide_eq_true_eq]; omega) | (refine jv_f ?_; simp only [decide_eq_false_iff_not]; omega) | (refine jv_I ?_; omega))⟩
theorem k7_spell_7 (g : jRw σ a b N f z) (gh : σ[h]? = some (7, [.int (jI fig)])) (ha : h ≠ a) (hb : h ≠ b) (hf : 0 ≤ fig ∧ fig ≤ 9) : jq sc 5 jm_X7_spell [.ref h, .ref a] σ (jP none (jRs σ a b N (fRAl N (f, z) (sp7 fig)).1 (fRAl N (f, z) (sp7 fig)).2)) := by
  have gz := g.2.2.2
  have g0 := g
  have gi := fRAl_i (N := N) (sp9 fig) (q := (f, z)) ⟨gz.1, gz.2.1⟩
  refine je_in jb_X7_spell rfl (ls := [_, _]) rfl ?_
  refine je_ps jb_X7_spell 2 (pc' := 2) (ls' := [_, _]) (st' := [_, _]) rfl ?_
  refine je_cvP' jb_X7_spell rfl (pc' := 5) rfl (gh) (by rfl) (by first | decide | exact Nat.ble_eq_true_of_le (by omega)) (k9_spell_7 g gh ha hb hf) (st' := []) rfl ?_
  have g := g0.s (fRAl N (f, z) (sp9 fig)).1 gi.1 gi.2
  have gh := (jRs_ne (σ := σ) (N := N) (f := (fRAl N (f, z) (sp9 fig)).1) (z := (fRAl N (f, z) (sp9 fig)).2) ha hb).trans gh
  refine je_ps jb_X7_spell 2 (pc' := 7) (ls' := [_, _]) (st' := [_, _]) rfl ?_
  refine je_cvP' jb_X7_spell rfl (pc' := 10) rfl (gh) (by rfl) (by first | decide | exact Nat.ble_eq_true_of_le (by omega)) (k9_spell_7 g gh ha hb hf) (st' := []) rfl ?_
  exact je_ret jb_X7_spell rfl (by rfl) ⟨rfl, by rw [jRs_jRs g0.2.2.1, sp7, ← fRAl_app]⟩
theorem k1_spell_1 (g : jRw σ a b N f z) (gh : σ[h]? = some (1, [.int (jI fig)])) (ha : h ≠ a) (hb : h ≠ b) (hf : 0 ≤ fig ∧ fig ≤ 9) : jq sc 5 jm_X1_spell [.ref h, .ref a] σ (jP none (jRs σ a b N (fRAl N (f, z) (sp1 fig)).1 (fRAl N (f, z) (sp1 fig)).2)) := by
  have gz := g.2.2.2
  have g0 := g
  have gi := fRAl_i (N := N) (List.replicate fig.toNat 2) (q := (f, z)) ⟨gz.1, gz.2.1⟩
  refine je_in jb_X1_spell rfl (ls := [_, _]) rfl ?_
  refine je_ps jb_X1_spell 3 (pc' := 3) (ls' := [_, _]) (st' := [_, _, _]) rfl ?_
  refine je_get jb_X1_spell rfl (pc' := 6) rfl (gh) (by rfl) (by rfl) ?_
  refine je_cvP' jb_X1_spell rfl (pc' := 9) rfl (g.1) (by rfl) (by first | decide | exact Nat.ble_eq_true_of_le (by omega)) (k_raddMany g (by omega) (by omega)) (st' := []) rfl ?_
  have g := g0.s (fRAl N (f, z) (List.replicate fig.toNat 2)).1 gi.1 gi.2
  have gh := (jRs_ne (σ := σ) (N := N) (f := (fRAl N (f, z) (List.replicate fig.toNat 2)).1) (z := (fRAl N (f, z) (List.replicate fig.toNat 2)).2) ha hb).trans gh
  refine je_ps jb_X1_spell 2 (pc' := 11) (ls' := [_, _]) (st' := [_, _]) rfl ?_
  refine je_cvP' jb_X1_spell rfl (pc' := 14) rfl (gh) (by rfl) (by first | decide | exact Nat.ble_eq_true_of_le (by omega)) (k9_spell_1 g gh ha hb hf) (st' := []) rfl ?_
  exact je_ret jb_X1_spell rfl (by rfl) ⟨rfl, by rw [jRs_jRs g0.2.2.1, sp1, ← fRAl_app]⟩
theorem k2_spell_2 (g : jRw σ a b N f z) (gh : σ[h]? = some (2, [.int (jI fig)])) (hf : 0 ≤ fig ∧ fig ≤ 9) : jq sc 5 jm_X2_spell [.ref h, .ref a] σ (jP none (jRs σ a b N (fRAl N (f, z) (sp2 fig)).1 (fRAl N (f, z) (sp2 fig)).2)) := by
  have gz := g.2.2.2
  have g0 := g
  have gi := fRAl_i (N := N) (sp0 fig) (q := (f, z)) ⟨gz.1, gz.2.1⟩
  refine je_in jb_X2_spell rfl (ls := [_, _]) rfl ?_
  refine je_ps jb_X2_spell 2 (pc' := 2) (ls' := [_, _]) (st' := [_, _]) rfl ?_
  refine je_cvP' jb_X2_spell rfl (pc' := 5) rfl (gh) (by rfl) (by first | decide | exact Nat.ble_eq_true_of_le (by omega)) (k0_spell_2 g gh hf) (st' := []) rfl ?_
  have g := g0.s (fRAl N (f, z) (sp0 fig)).1 gi.1 gi.2
  refine je_ps jb_X2_spell 2 (pc' := 7) (ls' := [_, _]) (st' := [_, _]) rfl ?_
  refine je_cvP' jb_X2_spell rfl (pc' := 10) rfl (g.1) (by rfl) (by first | decide | exact Nat.ble_eq_true_of_le (by omega)) (k_radd g (by omega)) (st' := [_]) rfl ?_
  refine je_ps jb_X2_spell 1 (pc' := 11) (ls' := [_, _]) (st' := []) rfl ?_
  exact je_ret jb_X2_spell rfl (by rfl) ⟨rfl, by rw [jRs_jRs g0.2.2.1, sp2, ← fRAl_1]⟩
theorem k7_init_7 (gh : σ[h]? = some (7, [.int (jI 0)])) : jq sc 3 jm_X7_init [.ref h, .int (jI fig)] σ (jP none (σ.set h (7, [.int (jI fig)]))) := by
  refine je_in jb_X7_init rfl (ls := [_, _]) rfl ?_
  refine je_ps jb_X7_init 2 (pc' := 2) (ls' := [_, _]) (st' := [_, _]) rfl ?_
  refine je_cvP' jb_X7_init rfl (pc' := 5) rfl (gh) (by rfl) (by first | decide | exact Nat.ble_eq_true_of_le (by omega)) (k9_init_7 gh) (st' := []) rfl ?_
  exact je_ret jb_X7_init rfl (by rfl) ⟨by (first | rfl | (refine jv_t ?_; simp only [decide_eq_true_eq]; omega) | (refine jv_f ?_; simp only [decide_eq_false_iff_not]; omega) | (refine jv_I ?_; omega)), by (first | rfl | (refine jv_t ?_; simp only [decide_eq_true_eq]; omega) | (refine jv_f ?_; simp only [decide_eq_false_iff_not]; omega) | (refine jv_I ?_; omega))⟩
theorem k1_init_1 (gh : σ[h]? = some (1, [.int (jI 0)])) : jq sc 3 jm_X1_init [.ref h, .int (jI fig)] σ (jP none (σ.set h (1, [.int (jI fig)]))) := by
  refine je_in jb_X1_init rfl (ls := [_, _]) rfl ?_
  refine je_ps jb_X1_init 2 (pc' := 2) (ls' := [_, _]) (st' := [_, _]) rfl ?_
  refine je_cvP' jb_X1_init rfl (pc' := 5) rfl (gh) (by rfl) (by first | decide | exact Nat.ble_eq_true_of_le (by omega)) (k9_init_1 gh) (st' := []) rfl ?_
  exact je_ret jb_X1_init rfl (by rfl) ⟨by (first | rfl | (refine jv_t ?_; simp only [decide_eq_true_eq]; omega) | (refine jv_f ?_; simp only [decide_eq_false_iff_not]; omega) | (refine jv_I ?_; omega)), by (first | rfl | (refine jv_t ?_; simp only [decide_eq_true_eq]; omega) | (refine jv_f ?_; simp only [decide_eq_false_iff_not]; omega) | (refine jv_I ?_; omega))⟩
theorem k2_init_2 (gh : σ[h]? = some (2, [.int (jI 0)])) : jq sc 3 jm_X2_init [.ref h, .int (jI fig)] σ (jP none (σ.set h (2, [.int (jI fig)]))) := by
  refine je_in jb_X2_init rfl (ls := [_, _]) rfl ?_
  refine je_ps jb_X2_init 2 (pc' := 2) (ls' := [_, _]) (st' := [_, _]) rfl ?_
  refine je_cvP' jb_X2_init rfl (pc' := 5) rfl (gh) (by rfl) (by first | decide | exact Nat.ble_eq_true_of_le (by omega)) (k0_init_2 gh) (st' := []) rfl ?_
  exact je_ret jb_X2_init rfl (by rfl) ⟨by (first | rfl | (refine jv_t ?_; simp only [decide_eq_true_eq]; omega) | (refine jv_f ?_; simp only [decide_eq_false_iff_not]; omega) | (refine jv_I ?_; omega)), by (first | rfl | (refine jv_t ?_; simp only [decide_eq_true_eq]; omega) | (refine jv_f ?_; simp only [decide_eq_false_iff_not]; omega) | (refine jv_I ?_; omega))⟩
theorem k6_kind (gh : σ[h]? = some (6, [.int (jI fig)])) : jq sc 1 jm_X6_kind [.ref h] σ (jP (some (.int (jI 0))) σ) := by
  refine je_in jb_X6_kind rfl (ls := [_]) rfl ?_
  refine je_ps jb_X6_kind 1 (pc' := 1) (ls' := [_]) (st' := [_]) rfl ?_
  exact je_ret jb_X6_kind rfl (by rfl) ⟨by (first | rfl | (refine jv_t ?_; simp only [decide_eq_true_eq]; omega) | (refine jv_f ?_; simp only [decide_eq_false_iff_not]; omega) | (refine jv_I ?_; omega)), by (first | rfl | (refine jv_t ?_; simp only [decide_eq_true_eq]; omega) | (refine jv_f ?_; simp only [decide_eq_false_iff_not]; omega) | (refine jv_I ?_; omega))⟩
theorem k9_kind (gh : σ[h]? = some (9, [.int (jI fig)])) : jq sc 1 jm_X9_kind [.ref h] σ (jP (some (.int (jI 1))) σ) := by
  refine je_in jb_X9_kind rfl (ls := [_]) rfl ?_
  refine je_ps jb_X9_kind 1 (pc' := 1) (ls' := [_]) (st' := [_]) rfl ?_
  exact je_ret jb_X9_kind rfl (by rfl) ⟨by (first | rfl | (refine jv_t ?_; simp only [decide_eq_true_eq]; omega) | (refine jv_f ?_; simp only [decide_eq_false_iff_not]; omega) | (refine jv_I ?_; omega)), by (first | rfl | (refine jv_t ?_; simp only [decide_eq_true_eq]; omega) | (refine jv_f ?_; simp only [decide_eq_false_iff_not]; omega) | (refine jv_I ?_; omega))⟩
theorem k0_kind (gh : σ[h]? = some (0, [.int (jI fig)])) : jq sc 1 jm_X0_kind [.ref h] σ (jP (some (.int (jI 2))) σ) := by
  refine je_in jb_X0_kind rfl (ls := [_]) rfl ?_
  refine je_ps jb_X0_kind 1 (pc' := 1) (ls' := [_]) (st' := [_]) rfl ?_
  exact je_ret jb_X0_kind rfl (by rfl) ⟨by (first | rfl | (refine jv_t ?_; simp only [decide_eq_true_eq]; omega) | (refine jv_f ?_; simp only [decide_eq_false_iff_not]; omega) | (refine jv_I ?_; omega)), by (first | rfl | (refine jv_t ?_; simp only [decide_eq_true_eq]; omega) | (refine jv_f ?_; simp only [decide_eq_false_iff_not]; omega) | (refine jv_I ?_; omega))⟩
theorem k7_kind (gh : σ[h]? = some (7, [.int (jI fig)])) : jq sc 1 jm_X7_kind [.ref h] σ (jP (some (.int (jI 3))) σ) := by
  refine je_in jb_X7_kind rfl (ls := [_]) rfl ?_
  refine je_ps jb_X7_kind 1 (pc' := 1) (ls' := [_]) (st' := [_]) rfl ?_
  exact je_ret jb_X7_kind rfl (by rfl) ⟨by (first | rfl | (refine jv_t ?_; simp only [decide_eq_true_eq]; omega) | (refine jv_f ?_; simp only [decide_eq_false_iff_not]; omega) | (refine jv_I ?_; omega)), by (first | rfl | (refine jv_t ?_; simp only [decide_eq_true_eq]; omega) | (refine jv_f ?_; simp only [decide_eq_false_iff_not]; omega) | (refine jv_I ?_; omega))⟩
theorem k1_kind (gh : σ[h]? = some (1, [.int (jI fig)])) : jq sc 1 jm_X1_kind [.ref h] σ (jP (some (.int (jI 4))) σ) := by
  refine je_in jb_X1_kind rfl (ls := [_]) rfl ?_
  refine je_ps jb_X1_kind 1 (pc' := 1) (ls' := [_]) (st' := [_]) rfl ?_
  exact je_ret jb_X1_kind rfl (by rfl) ⟨by (first | rfl | (refine jv_t ?_; simp only [decide_eq_true_eq]; omega) | (refine jv_f ?_; simp only [decide_eq_false_iff_not]; omega) | (refine jv_I ?_; omega)), by (first | rfl | (refine jv_t ?_; simp only [decide_eq_true_eq]; omega) | (refine jv_f ?_; simp only [decide_eq_false_iff_not]; omega) | (refine jv_I ?_; omega))⟩
theorem k2_kind (gh : σ[h]? = some (2, [.int (jI fig)])) : jq sc 1 jm_X2_kind [.ref h] σ (jP (some (.int (jI 5))) σ) := by
  refine je_in jb_X2_kind rfl (ls := [_]) rfl ?_
  refine je_ps jb_X2_kind 1 (pc' := 1) (ls' := [_]) (st' := [_]) rfl ?_
  exact je_ret jb_X2_kind rfl (by rfl) ⟨by (first | rfl | (refine jv_t ?_; simp only [decide_eq_true_eq]; omega) | (refine jv_f ?_; simp only [decide_eq_false_iff_not]; omega) | (refine jv_I ?_; omega)), by (first | rfl | (refine jv_t ?_; simp only [decide_eq_true_eq]; omega) | (refine jv_f ?_; simp only [decide_eq_false_iff_not]; omega) | (refine jv_I ?_; omega))⟩
/-- the class's number of a helper of that kind -/
def hTag (kind : Int) : Nat := if kind = 1 then 9 else if kind = 2 then 0 else if kind = 3 then 7 else if kind = 4 then 1 else if kind = 5 then 2 else 6
def hSp (kind fig : Int) : List Int := if kind = 1 then sp9 fig else if kind = 2 then sp0 fig else if kind = 3 then sp7 fig else if kind = 4 then sp1 fig else if kind = 5 then sp2 fig else sp6 fig
end C23
