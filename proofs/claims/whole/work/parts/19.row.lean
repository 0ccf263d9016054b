/-! ROWS -/
section C19
variable {sc : Nat × (Nat → Int32)} {m : Nat → Int → Int} {r : Nat → Nat → Value} {T : jx_H} {σ : jx_H} {a b N : Nat} {f : Int → Int} {z : Int}
/-- a row lies there: its numbers and how many -/
def jRw (σ : jx_H) (a b N : Nat) (f : Int → Int) (z : Int) : Prop := σ[a]? = some (3, [.ref b, .int (jI z)]) ∧ σ[b]? = some (jA N f) ∧ a ≠ b ∧ 0 ≤ z ∧ z ≤ N ∧ N ≤ 1000
def jRs (σ : jx_H) (a b N : Nat) (f : Int → Int) (z : Int) : jx_H := (σ.set b (jA N f)).set a (3, [.ref b, .int (jI z)])
theorem jlt {σ : jx_H} {a : Nat} {c : jx_C} (h : σ[a]? = some c) : a < σ.length := (List.getElem?_eq_some_iff.mp h).1
theorem jset_same {σ : jx_H} {a : Nat} {c c' : jx_C} (h : σ[a]? = some c) : (σ.set a c')[a]? = some c' := by
  rw [List.getElem?_set_self (jlt h)]
theorem jset_ne {σ : jx_H} {a b : Nat} {c' : jx_C} (h : a ≠ b) : (σ.set b c')[a]? = σ[a]? := List.getElem?_set_ne (fun e => h e.symm)
theorem jset_self {σ : jx_H} {a : Nat} {c : jx_C} (h : σ[a]? = some c) : σ.set a c = σ := by
  apply List.ext_getElem?
  intro i
  by_cases e : i = a
  · subst e
    rw [jset_same h, h]
  · rw [jset_ne e]
theorem jRw.n (g : jRw σ a b N f z) (f' : Int → Int) : jRw (σ.set b (jA N f')) a b N f' z :=
  ⟨by rw [jset_ne g.2.2.1]; exact g.1, jset_same g.2.1, g.2.2⟩
theorem jRw.sz (g : jRw σ a b N f z) {z' : Int} (h0 : 0 ≤ z') (h1 : z' ≤ N) : jRw (σ.set a (3, [.ref b, .int (jI z')])) a b N f z' :=
  ⟨jset_same g.1, by rw [jset_ne g.2.2.1.symm]; exact g.2.1, g.2.2.1, h0, h1, g.2.2.2.2.2⟩
theorem jRw.s (g : jRw σ a b N f z) (f' : Int → Int) {z' : Int} (h0 : 0 ≤ z') (h1 : z' ≤ N) : jRw (jRs σ a b N f' z') a b N f' z' := (g.n f').sz h0 h1
theorem jRs_self (g : jRw σ a b N f z) : jRs σ a b N f z = σ := by
  unfold jRs
  rw [jset_self g.2.1, jset_self g.1]
theorem jRs_z (g : jRw σ a b N f z) (z' : Int) : σ.set a (3, [.ref b, .int (jI z')]) = jRs σ a b N f z' := by
  unfold jRs
  rw [jset_self g.2.1]
theorem jRs_n (g : jRw σ a b N f z) (f' : Int → Int) : σ.set b (jA N f') = jRs σ a b N f' z := by
  unfold jRs
  have q := (g.n f').1
  exact (jset_self q).symm
theorem jRs_jRs (g : a ≠ b) (f f' : Int → Int) (z z' : Int) : jRs (jRs σ a b N f z) a b N f' z' = jRs σ a b N f' z' := by
  unfold jRs
  rw [List.set_comm _ _ g, List.set_set, List.set_set]
theorem jRs_w {σ : jx_H} {a b N : Nat} {f f' : Int → Int} {z z' : Int} (h : f = f' ∧ z = z') : jRs σ a b N f z = jRs σ a b N f' z' := by rw [h.1, h.2]
def fRH (z i : Int) : Bool := decide (0 ≤ i ∧ i < z)
def fRAt (f : Int → Int) (z i : Int) : Int := if 0 ≤ i ∧ i < z then f i else 0
/-- one number more, where there is room -/
def fRA (N : Nat) (q : (Int → Int) × Int) (x : Int) : (Int → Int) × Int := if q.2 < N then (ju q.1 q.2 x, q.2 + 1) else q
def fRAl (N : Nat) (q : (Int → Int) × Int) (l : List Int) : (Int → Int) × Int := l.foldl (fRA N) q
theorem fRA_i {q : (Int → Int) × Int} {x : Int} (h : 0 ≤ q.2 ∧ q.2 ≤ N) : 0 ≤ (fRA N q x).2 ∧ (fRA N q x).2 ≤ N := by
  unfold fRA
  split
  · exact ⟨by show 0 ≤ q.2 + 1; omega, by show q.2 + 1 ≤ N; omega⟩
  · exact h
theorem fRAl_i : ∀ (l : List Int) {q : (Int → Int) × Int}, (0 ≤ q.2 ∧ q.2 ≤ N) → 0 ≤ (fRAl N q l).2 ∧ (fRAl N q l).2 ≤ N
  | [], _, h => h
  | x :: l, q, h => fRAl_i l (q := fRA N q x) (fRA_i h)
theorem fRAl_app (q : (Int → Int) × Int) (l l' : List Int) : fRAl N (fRAl N q l) l' = fRAl N q (l ++ l') := (List.foldl_append).symm
theorem fRAl_1 (q : (Int → Int) × Int) (l : List Int) (x : Int) : fRA N (fRAl N q l) x = fRAl N q (l ++ [x]) := by rw [← fRAl_app]; rfl
theorem k_rclear (g : jRw σ a b N f z) : jq sc 1 jm_X3_clear [.ref a] σ (jP none (jRs σ a b N f 0)) := by
  refine je_in jb_X3_clear rfl (ls := [_]) rfl ?_
  refine je_ps jb_X3_clear 2 (pc' := 2) (ls' := [_]) (st' := [_, _]) rfl ?_
  refine je_put jb_X3_clear rfl (pc' := 5) rfl (g.1) (by rfl) (by rfl) (by rfl) (by rfl) ?_
  exact je_ret jb_X3_clear rfl (by rfl) ⟨rfl, jRs_z g 0⟩
theorem k_radd (g : jRw σ a b N f z) {x : Int} (hx : -2147483648 ≤ x ∧ x ≤ 2147483647) : jq sc 1 jm_X3_add [.ref a, .int (jI x)] σ (jP (some (.int (jI (jb (decide (z < N)))))) (jRs σ a b N (fRA N (f, z) x).1 (fRA N (f, z) x).2)) := by
  have gz := g.2.2.2
  refine je_in jb_X3_add rfl (ls := [_, _]) rfl ?_
  refine je_ps jb_X3_add 1 (pc' := 1) (ls' := [_, _]) (st' := [_]) rfl ?_
  refine je_get jb_X3_add rfl (pc' := 4) rfl (g.1) (by rfl) (by rfl) ?_
  refine je_iflt jb_X3_add rfl (t := 19) rfl (pc' := 7) rfl (by first | omega | exact (hM _ _).1 | exact (hM _ _).2) (by first | omega | exact (hM _ _).1 | exact (hM _ _).2) (fun c4 => ?_) (fun c4 => ?_)
  · first | (exfalso; omega) | (cases c4; done) | (exfalso; simp_all; done)
  · refine je_ps jb_X3_add 1 (pc' := 8) (ls' := [_, _]) (st' := [_]) rfl ?_
    refine je_get jb_X3_add rfl (pc' := 11) rfl (g.1) (by rfl) (by rfl) ?_
    refine je_ps jb_X3_add 1 (pc' := 12) (ls' := [_, _]) (st' := [_, _]) rfl ?_
    refine je_get jb_X3_add rfl (pc' := 15) rfl (g.1) (by rfl) (by rfl) ?_
    refine je_alen jb_X3_add rfl (pc' := 16) rfl (g.2.1) ?_
    refine je_icmplt jb_X3_add rfl (t := 21) rfl (pc' := 19) rfl (by first | omega | exact (hM _ _).1 | exact (hM _ _).2) (by first | omega | exact (hM _ _).1 | exact (hM _ _).2) (by first | omega | exact (hM _ _).1 | exact (hM _ _).2) (by first | omega | exact (hM _ _).1 | exact (hM _ _).2) (fun c16 => ?_) (fun c16 => ?_)
    · refine je_ps jb_X3_add 1 (pc' := 22) (ls' := [_, _]) (st' := [_]) rfl ?_
      refine je_get jb_X3_add rfl (pc' := 25) rfl (g.1) (by rfl) (by rfl) ?_
      refine je_ps jb_X3_add 1 (pc' := 26) (ls' := [_, _]) (st' := [_, _]) rfl ?_
      refine je_get jb_X3_add rfl (pc' := 29) rfl (g.1) (by rfl) (by rfl) ?_
      refine je_ps jb_X3_add 1 (pc' := 30) (ls' := [_, _]) (st' := [_, _, _]) rfl ?_
      refine je_iast jb_X3_add rfl (pc' := 31) rfl (g.2.1) (by first | omega | exact (hM _ _).1 | exact (hM _ _).2) (by first | omega | exact (hM _ _).1 | exact (hM _ _).2) (by first | omega | exact (hM _ _).1 | exact (hM _ _).2) ?_
      have g0 := g
      have g := g.n (ju f z x)
      refine je_ps jb_X3_add 2 (pc' := 33) (ls' := [_, _]) (st' := [_, _]) rfl ?_
      refine je_get jb_X3_add rfl (pc' := 36) rfl (g.1) (by rfl) (by rfl) ?_
      refine je_ps jb_X3_add 1 (pc' := 37) (ls' := [_, _]) (st' := [_, _, _]) rfl ?_
      refine je_iadd jb_X3_add rfl (pc' := 38) rfl ?_
      refine je_put jb_X3_add rfl (pc' := 41) rfl (g.1) (by rfl) (by rfl) (by rfl) (by rfl) ?_
      refine je_ps jb_X3_add 1 (pc' := 42) (ls' := [_, _]) (st' := [_]) rfl ?_
      rw [decide_eq_true (by omega), show fRA N (f, z) x = (ju f z x, z + 1) from if_pos (by show z < N; omega)]
      exact je_ret jb_X3_add rfl (by rfl) ⟨rfl, rfl⟩
    · refine je_ps jb_X3_add 1 (pc' := 20) (ls' := [_, _]) (st' := [_]) rfl ?_
      rw [decide_eq_false (by omega), show fRA N (f, z) x = (f, z) from if_neg (by show ¬ z < N; omega), jRs_self g]
      exact je_ret jb_X3_add rfl (by rfl) ⟨rfl, rfl⟩
theorem k_rhas (g : jRw σ a b N f z) {i : Int} (hi : -2147483648 ≤ i ∧ i ≤ 2147483647) : jq sc 1 jm_X3_has [.ref a, .int (jI i)] σ (jP (some (.int (jI (jb (fRH z i))))) σ) := by
  have gz := g.2.2.2
  unfold fRH
  refine je_in jb_X3_has rfl (ls := [_, _]) rfl ?_
  refine je_ps jb_X3_has 1 (pc' := 1) (ls' := [_, _]) (st' := [_]) rfl ?_
  refine je_iflt jb_X3_has rfl (t := 25) rfl (pc' := 4) rfl (by first | omega | exact (hM _ _).1 | exact (hM _ _).2) (by first | omega | exact (hM _ _).1 | exact (hM _ _).2) (fun c1 => ?_) (fun c1 => ?_)
  · refine je_ps jb_X3_has 1 (pc' := 26) (ls' := [_, _]) (st' := [_]) rfl ?_
    exact je_ret jb_X3_has rfl (by rfl) ⟨by (first | rfl | (refine jv_t ?_; simp only [decide_eq_true_eq]; omega) | (refine jv_f ?_; simp only [decide_eq_false_iff_not]; omega) | (refine jv_I ?_; omega)), by (first | rfl | (refine jv_t ?_; simp only [decide_eq_true_eq]; omega) | (refine jv_f ?_; simp only [decide_eq_false_iff_not]; omega) | (refine jv_I ?_; omega))⟩
  · refine je_ps jb_X3_has 2 (pc' := 6) (ls' := [_, _]) (st' := [_, _]) rfl ?_
    refine je_get jb_X3_has rfl (pc' := 9) rfl (g.1) (by rfl) (by rfl) ?_
    refine je_icmpge jb_X3_has rfl (t := 25) rfl (pc' := 12) rfl (by first | omega | exact (hM _ _).1 | exact (hM _ _).2) (by first | omega | exact (hM _ _).1 | exact (hM _ _).2) (by first | omega | exact (hM _ _).1 | exact (hM _ _).2) (by first | omega | exact (hM _ _).1 | exact (hM _ _).2) (fun c9 => ?_) (fun c9 => ?_)
    · refine je_ps jb_X3_has 1 (pc' := 26) (ls' := [_, _]) (st' := [_]) rfl ?_
      exact je_ret jb_X3_has rfl (by rfl) ⟨by (first | rfl | (refine jv_t ?_; simp only [decide_eq_true_eq]; omega) | (refine jv_f ?_; simp only [decide_eq_false_iff_not]; omega) | (refine jv_I ?_; omega)), by (first | rfl | (refine jv_t ?_; simp only [decide_eq_true_eq]; omega) | (refine jv_f ?_; simp only [decide_eq_false_iff_not]; omega) | (refine jv_I ?_; omega))⟩
    · refine je_ps jb_X3_has 2 (pc' := 14) (ls' := [_, _]) (st' := [_, _]) rfl ?_
      refine je_get jb_X3_has rfl (pc' := 17) rfl (g.1) (by rfl) (by rfl) ?_
      refine je_alen jb_X3_has rfl (pc' := 18) rfl (g.2.1) ?_
      refine je_icmpge jb_X3_has rfl (t := 25) rfl (pc' := 21) rfl (by first | omega | exact (hM _ _).1 | exact (hM _ _).2) (by first | omega | exact (hM _ _).1 | exact (hM _ _).2) (by first | omega | exact (hM _ _).1 | exact (hM _ _).2) (by first | omega | exact (hM _ _).1 | exact (hM _ _).2) (fun c18 => ?_) (fun c18 => ?_)
      · refine je_ps jb_X3_has 1 (pc' := 26) (ls' := [_, _]) (st' := [_]) rfl ?_
        exact je_ret jb_X3_has rfl (by rfl) ⟨by (first | rfl | (refine jv_t ?_; simp only [decide_eq_true_eq]; omega) | (refine jv_f ?_; simp only [decide_eq_false_iff_not]; omega) | (refine jv_I ?_; omega)), by (first | rfl | (refine jv_t ?_; simp only [decide_eq_true_eq]; omega) | (refine jv_f ?_; simp only [decide_eq_false_iff_not]; omega) | (refine jv_I ?_; omega))⟩
      · refine je_ps jb_X3_has 2 (pc' := 26) (ls' := [_, _]) (st' := [_]) rfl ?_
        exact je_ret jb_X3_has rfl (by rfl) ⟨by (first | rfl | (refine jv_t ?_; simp only [decide_eq_true_eq]; omega) | (refine jv_f ?_; simp only [decide_eq_false_iff_not]; omega) | (refine jv_I ?_; omega)), by (first | rfl | (refine jv_t ?_; simp only [decide_eq_true_eq]; omega) | (refine jv_f ?_; simp only [decide_eq_false_iff_not]; omega) | (refine jv_I ?_; omega))⟩
theorem k_rat (g : jRw σ a b N f z) {i : Int} (hi : -2147483648 ≤ i ∧ i ≤ 2147483647) : jq sc 2 jm_X3_at [.ref a, .int (jI i)] σ (jP (some (.int (jI (fRAt f z i)))) σ) := by
  have gz := g.2.2.2
  refine je_in jb_X3_at rfl (ls := [_, _]) rfl ?_
  refine je_ps jb_X3_at 2 (pc' := 2) (ls' := [_, _]) (st' := [_, _]) rfl ?_
  refine je_cvP' jb_X3_at rfl (pc' := 5) rfl (g.1) (by rfl) (by first | decide | exact Nat.ble_eq_true_of_le (by omega)) (k_rhas g (by omega)) (st' := [_]) rfl ?_
  refine je_ifeqb jb_X3_at rfl (t := 17) rfl (pc' := 8) rfl (fun c5 => ?_) (fun c5 => ?_)
  · refine je_ps jb_X3_at 1 (pc' := 18) (ls' := [_, _]) (st' := [_]) rfl ?_
    first | exact je_ret jb_X3_at rfl (by rfl) ⟨jv_I (if_pos (of_decide_eq_true c5)).symm, rfl⟩ | exact je_ret jb_X3_at rfl (by rfl) ⟨jv_I (if_neg (of_decide_eq_false c5)).symm, rfl⟩
  · have c5' := of_decide_eq_true c5
    refine je_ps jb_X3_at 1 (pc' := 9) (ls' := [_, _]) (st' := [_]) rfl ?_
    refine je_get jb_X3_at rfl (pc' := 12) rfl (g.1) (by rfl) (by rfl) ?_
    refine je_ps jb_X3_at 1 (pc' := 13) (ls' := [_, _]) (st' := [_, _]) rfl ?_
    refine je_iald jb_X3_at rfl (pc' := 14) rfl (g.2.1) (by first | omega | exact (hM _ _).1 | exact (hM _ _).2) (by first | omega | exact (hM _ _).1 | exact (hM _ _).2) (by first | omega | exact (hM _ _).1 | exact (hM _ _).2) ?_
    refine je_ps jb_X3_at 1 (pc' := 18) (ls' := [_, _]) (st' := [_]) rfl ?_
    first | exact je_ret jb_X3_at rfl (by rfl) ⟨jv_I (if_pos (of_decide_eq_true c5)).symm, rfl⟩ | exact je_ret jb_X3_at rfl (by rfl) ⟨jv_I (if_neg (of_decide_eq_false c5)).symm, rfl⟩
theorem k_rset (g : jRw σ a b N f z) {i x : Int} (hi : -2147483648 ≤ i ∧ i ≤ 2147483647) : jq sc 2 jm_X3_set [.ref a, .int (jI i), .int (jI x)] σ (jP none (jRs σ a b N (if 0 ≤ i ∧ i < z then ju f i x else f) z)) := by
  have gz := g.2.2.2
  refine je_in jb_X3_set rfl (ls := [_, _, _]) rfl ?_
  refine je_ps jb_X3_set 2 (pc' := 2) (ls' := [_, _, _]) (st' := [_, _]) rfl ?_
  refine je_cvP' jb_X3_set rfl (pc' := 5) rfl (g.1) (by rfl) (by first | decide | exact Nat.ble_eq_true_of_le (by omega)) (k_rhas g (by omega)) (st' := [_]) rfl ?_
  refine je_ifeqb jb_X3_set rfl (t := 15) rfl (pc' := 8) rfl (fun c5 => ?_) (fun c5 => ?_)
  · first | (rw [if_pos (of_decide_eq_true c5)]; exact je_ret jb_X3_set rfl (by rfl) ⟨rfl, jRs_n g _⟩) | (rw [if_neg (of_decide_eq_false c5), jRs_self g]; exact je_ret jb_X3_set rfl (by rfl) ⟨rfl, rfl⟩)
  · have c5' := of_decide_eq_true c5
    refine je_ps jb_X3_set 1 (pc' := 9) (ls' := [_, _, _]) (st' := [_]) rfl ?_
    refine je_get jb_X3_set rfl (pc' := 12) rfl (g.1) (by rfl) (by rfl) ?_
    refine je_ps jb_X3_set 2 (pc' := 14) (ls' := [_, _, _]) (st' := [_, _, _]) rfl ?_
    refine je_iast jb_X3_set rfl (pc' := 15) rfl (g.2.1) (by first | omega | exact (hM _ _).1 | exact (hM _ _).2) (by first | omega | exact (hM _ _).1 | exact (hM _ _).2) (by first | omega | exact (hM _ _).1 | exact (hM _ _).2) ?_
    first | (rw [if_pos (of_decide_eq_true c5)]; exact je_ret jb_X3_set rfl (by rfl) ⟨rfl, jRs_n g _⟩) | (rw [if_neg (of_decide_eq_false c5), jRs_self g]; exact je_ret jb_X3_set rfl (by rfl) ⟨rfl, rfl⟩)
theorem k_raddMany (g : jRw σ a b N f z) {x t : Int} (hx : -2147483648 ≤ x ∧ x ≤ 2147483647) (ht : -2147483648 ≤ t ∧ t ≤ 1000) : jq sc 2 jm_X3_addMany [.ref a, .int (jI x), .int (jI t)] σ (jP none (jRs σ a b N (fRAl N (f, z) (List.replicate t.toNat x)).1 (fRAl N (f, z) (List.replicate t.toNat x)).2)) := by
  have gz := g.2.2.2
  have g0 := g
  refine je_in jb_X3_addMany rfl (ls := [_, _, _, _]) rfl ?_
  refine je_ps jb_X3_addMany 2 (pc' := 2) (ls' := [_, _, _, _]) (st' := []) rfl ?_
  refine je_loop (fun (v : Nat) ls σ' => ls = [.ref a, .int (jI x), .int (jI t), .int (jI v)] ∧ σ' = jRs σ a b N (fRAl N (f, z) (List.replicate v x)).1 (fRAl N (f, z) (List.replicate v x)).2) (t.toNat) ⟨rfl, (jRs_self g).symm⟩ (fun v hv ls σ' gv kv => ?_) (fun ls σ' gv => ?_)
  · obtain ⟨rfl, rfl⟩ := gv
    have gi := fRAl_i (N := N) (List.replicate v x) (q := (f, z)) ⟨gz.1, gz.2.1⟩
    have g := g0.s (fRAl N (f, z) (List.replicate v x)).1 gi.1 gi.2
    have gs : fRAl N (f, z) (List.replicate (v + 1) x) = fRA N (fRAl N (f, z) (List.replicate v x)) x := by rw [List.replicate_succ', fRAl_1]
    refine je_ps jb_X3_addMany 2 (pc' := 4) (ls' := [_, _, _, _]) (st' := [_, _]) rfl ?_
    refine je_icmpge jb_X3_addMany rfl (t := 19) rfl (pc' := 7) rfl (by first | omega | exact (hM _ _).1 | exact (hM _ _).2) (by first | omega | exact (hM _ _).1 | exact (hM _ _).2) (by first | omega | exact (hM _ _).1 | exact (hM _ _).2) (by first | omega | exact (hM _ _).1 | exact (hM _ _).2) (fun c4 => ?_) (fun c4 => ?_)
    · first | (exfalso; omega) | (cases c4; done) | (exfalso; simp_all; done)
    · refine je_ps jb_X3_addMany 2 (pc' := 9) (ls' := [_, _, _, _]) (st' := [_, _]) rfl ?_
      refine je_cvP' jb_X3_addMany rfl (pc' := 12) rfl (g.1) (by rfl) (by first | decide | exact Nat.ble_eq_true_of_le (by omega)) (k_radd g (by omega)) (st' := [_]) rfl ?_
      refine je_ps jb_X3_addMany 1 (pc' := 13) (ls' := [_, _, _, _]) (st' := []) rfl ?_
      refine je_iinc jb_X3_addMany rfl (pc' := 16) rfl rfl (ls' := [_, _, _, _]) rfl ?_
      refine je_ps jb_X3_addMany 1 (pc' := 2) (ls' := [_, _, _, _]) (st' := []) rfl ?_
      exact kv _ _ ⟨rfl, by rw [jRs_jRs g0.2.2.1, gs]⟩
  · obtain ⟨rfl, rfl⟩ := gv
    refine je_ps jb_X3_addMany 2 (pc' := 4) (ls' := [_, _, _, _]) (st' := [_, _]) rfl ?_
    refine je_icmpge jb_X3_addMany rfl (t := 19) rfl (pc' := 7) rfl (by first | omega | exact (hM _ _).1 | exact (hM _ _).2) (by first | omega | exact (hM _ _).1 | exact (hM _ _).2) (by first | omega | exact (hM _ _).1 | exact (hM _ _).2) (by first | omega | exact (hM _ _).1 | exact (hM _ _).2) (fun c4 => ?_) (fun c4 => ?_)
    · exact je_ret jb_X3_addMany rfl (by rfl) ⟨by (first | rfl | (refine jv_t ?_; simp only [decide_eq_true_eq]; omega) | (refine jv_f ?_; simp only [decide_eq_false_iff_not]; omega) | (refine jv_I ?_; omega)), by (first | rfl | (refine jv_t ?_; simp only [decide_eq_true_eq]; omega) | (refine jv_f ?_; simp only [decide_eq_false_iff_not]; omega) | (refine jv_I ?_; omega))⟩
    · first | (exfalso; omega) | (cases c4; done) | (exfalso; simp_all; done)
def fHow (f : Int → Int) (z x : Int) : Int := fSum (fun p => if fRAt f z p = x then 1 else 0) z.toNat
theorem k_rhowMany (g : jRw σ a b N f z) (hf : ∀ p, -2147483648 ≤ f p ∧ f p ≤ 2147483647) {x : Int} (hx : -2147483648 ≤ x ∧ x ≤ 2147483647) : jq sc 3 jm_X3_howMany [.ref a, .int (jI x)] σ (jP (some (.int (jI (fHow f z x)))) σ) := by
  have gz := g.2.2.2
  refine je_in jb_X3_howMany rfl (ls := [_, _, _, _]) rfl ?_
  refine je_ps jb_X3_howMany 4 (pc' := 4) (ls' := [_, _, _, _]) (st' := []) rfl ?_
  refine je_loop (fun (v : Nat) ls σ' => ls = [.ref a, .int (jI x), .int (jI (fSum (fun p => if fRAt f z p = x then 1 else 0) v)), .int (jI v)] ∧ σ' = σ) (z.toNat) ⟨rfl, rfl⟩ (fun v hv ls σ' gv kv => ?_) (fun ls σ' gv => ?_)
  · obtain ⟨rfl, rfl⟩ := gv
    have gr : -2147483648 ≤ fRAt f z (v : Int) ∧ fRAt f z (v : Int) ≤ 2147483647 := by unfold fRAt; rw [if_pos (by omega)]; exact hf v
    have gs : fSum (fun p => if fRAt f z p = x then 1 else 0) (v + 1) = fSum (fun p => if fRAt f z p = x then 1 else 0) v + (if fRAt f z (v : Int) = x then 1 else 0) := rfl
    refine je_ps jb_X3_howMany 2 (pc' := 6) (ls' := [_, _, _, _]) (st' := [_, _]) rfl ?_
    refine je_get jb_X3_howMany rfl (pc' := 9) rfl (g.1) (by rfl) (by rfl) ?_
    refine je_icmpge jb_X3_howMany rfl (t := 35) rfl (pc' := 12) rfl (by first | omega | exact (hM _ _).1 | exact (hM _ _).2) (by first | omega | exact (hM _ _).1 | exact (hM _ _).2) (by first | omega | exact (hM _ _).1 | exact (hM _ _).2) (by first | omega | exact (hM _ _).1 | exact (hM _ _).2) (fun c9 => ?_) (fun c9 => ?_)
    · first | (exfalso; omega) | (cases c9; done) | (exfalso; simp_all; done)
    · refine je_ps jb_X3_howMany 3 (pc' := 15) (ls' := [_, _, _, _]) (st' := [_, _, _]) rfl ?_
      refine je_cvP' jb_X3_howMany rfl (pc' := 18) rfl (g.1) (by rfl) (by first | decide | exact Nat.ble_eq_true_of_le (by omega)) (k_rat g (by omega)) (st' := [_, _]) rfl ?_
      refine je_ps jb_X3_howMany 1 (pc' := 19) (ls' := [_, _, _, _]) (st' := [_, _, _]) rfl ?_
      refine je_icmpne jb_X3_howMany rfl (t := 26) rfl (pc' := 22) rfl (by first | omega | exact (hM _ _).1 | exact (hM _ _).2) (by first | omega | exact (hM _ _).1 | exact (hM _ _).2) (by first | omega | exact (hM _ _).1 | exact (hM _ _).2) (by first | omega | exact (hM _ _).1 | exact (hM _ _).2) (fun c19 => ?_) (fun c19 => ?_)
      · refine je_ps jb_X3_howMany 1 (pc' := 27) (ls' := [_, _, _, _]) (st' := [_, _]) rfl ?_
        refine je_iadd jb_X3_howMany rfl (pc' := 28) rfl ?_
        refine je_ps jb_X3_howMany 1 (pc' := 29) (ls' := [_, _, _, _]) (st' := []) rfl ?_
        refine je_iinc jb_X3_howMany rfl (pc' := 32) rfl rfl (ls' := [_, _, _, _]) rfl ?_
        refine je_ps jb_X3_howMany 1 (pc' := 4) (ls' := [_, _, _, _]) (st' := []) rfl ?_
        rw [gs] at kv
        first | (rw [if_pos (by omega)] at kv; exact kv _ _ ⟨rfl, rfl⟩) | (rw [if_neg (by omega)] at kv; exact kv _ _ ⟨rfl, rfl⟩)
      · refine je_ps jb_X3_howMany 2 (pc' := 27) (ls' := [_, _, _, _]) (st' := [_, _]) rfl ?_
        refine je_iadd jb_X3_howMany rfl (pc' := 28) rfl ?_
        refine je_ps jb_X3_howMany 1 (pc' := 29) (ls' := [_, _, _, _]) (st' := []) rfl ?_
        refine je_iinc jb_X3_howMany rfl (pc' := 32) rfl rfl (ls' := [_, _, _, _]) rfl ?_
        refine je_ps jb_X3_howMany 1 (pc' := 4) (ls' := [_, _, _, _]) (st' := []) rfl ?_
        rw [gs] at kv
        first | (rw [if_pos (by omega)] at kv; exact kv _ _ ⟨rfl, rfl⟩) | (rw [if_neg (by omega)] at kv; exact kv _ _ ⟨rfl, rfl⟩)
  · obtain ⟨rfl, rfl⟩ := gv
    refine je_ps jb_X3_howMany 2 (pc' := 6) (ls' := [_, _, _, _]) (st' := [_, _]) rfl ?_
    refine je_get jb_X3_howMany rfl (pc' := 9) rfl (g.1) (by rfl) (by rfl) ?_
    refine je_icmpge jb_X3_howMany rfl (t := 35) rfl (pc' := 12) rfl (by first | omega | exact (hM _ _).1 | exact (hM _ _).2) (by first | omega | exact (hM _ _).1 | exact (hM _ _).2) (by first | omega | exact (hM _ _).1 | exact (hM _ _).2) (by first | omega | exact (hM _ _).1 | exact (hM _ _).2) (fun c9 => ?_) (fun c9 => ?_)
    · refine je_ps jb_X3_howMany 1 (pc' := 36) (ls' := [_, _, _, _]) (st' := [_]) rfl ?_
      exact je_ret jb_X3_howMany rfl (by rfl) ⟨by (first | rfl | (refine jv_t ?_; simp only [decide_eq_true_eq]; omega) | (refine jv_f ?_; simp only [decide_eq_false_iff_not]; omega) | (refine jv_I ?_; omega)), by (first | rfl | (refine jv_t ?_; simp only [decide_eq_true_eq]; omega) | (refine jv_f ?_; simp only [decide_eq_false_iff_not]; omega) | (refine jv_I ?_; omega))⟩
    · first | (exfalso; omega) | (cases c9; done) | (exfalso; simp_all; done)
end C19
