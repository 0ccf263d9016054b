/-! CALLS of the other side: letters, words, what helpers do -/
section C71
variable {sc : Nat × (Nat → Int32)} {m : Nat → Int → Int} {r : Nat → Nat → Value} {T : jx_H} {σ : jx_H}
variable {d M pc : Nat} {Q : Option Value → jx_H → Prop}
/-- a loop whose count goes on by more than one -/
theorem je_meas {h : Nat} (I : Nat → List Value → jx_H → Prop) (N : Nat) {p0 : Nat} {ls0 : List Value} {σ0 : jx_H} (hp0 : p0 ≤ N) (h0 : I p0 ls0 σ0) (hb : ∀ p, p ≤ N → ∀ ls σ, I p ls σ → (∀ p' ls' σ', p < p' → p' ≤ N → I p' ls' σ' → je sc d M h ls' [] σ' Q) → je sc d M h ls [] σ Q) : je sc d M h ls0 [] σ0 Q := by
  have key : ∀ f p, p ≤ N → N - p ≤ f → ∀ ls σ, I p ls σ → je sc d M h ls [] σ Q := by
    intro f
    induction f with
    | zero => exact fun p hp hf ls σ hi => hb p hp ls σ hi fun p' ls' σ' h1 h2 _ => by omega
    | succ f ih => exact fun p hp hf ls σ hi => hb p hp ls σ hi fun p' ls' σ' h1 h2 hi' => ih p' h2 (by omega) ls' σ' hi'
  exact key (N - p0) p0 hp0 (Nat.le_refl _) _ _ h0
/-- the letters, as the other side holds them -/
def gQs (m : Nat → Int → Int) (q : wT) : Prop := m 45 22 = q.2 ∧ ∀ p : Int, 0 ≤ p → p < q.2 → m 55 p = q.1 p
theorem gQs.at {q : wT} (g : gQs m q) {p : Int} (h : 0 ≤ p ∧ p < q.2) : m 55 p = fRAt q.1 q.2 p := by
  unfold fRAt
  rw [if_pos h]
  exact g.2 p h.1 h.2
theorem gQs.w {q : wT} (g : gQs m q) (w : Int) (L : Int → Int) (e : Int) : gQs (gW m w L e) q := by
  unfold gQs at *
  rw [gW_43 _ _ _ _ (by decide) (by decide), gW_43 _ _ _ _ (by decide) (by decide)]
  exact g
theorem c_X12_letterOf {c : Int} (hc : -2147483648 ≤ c ∧ c ≤ 2147483647) : jq sc 1 jm_X12_letterOf [.int (jI c)] σ (jP (some (.int (jI (fLet c)))) σ) := by
  have gl := fLet_c c
  refine je_in jb_X12_letterOf rfl (ls := [_]) rfl ?_
  refine je_ps jb_X12_letterOf 2 (pc' := 3) (ls' := [_]) (st' := [_, _]) rfl ?_
  refine je_icmpne jb_X12_letterOf rfl (t := 10) rfl (pc' := 6) rfl (by first | omega | exact (hM _ _).1 | exact (hM _ _).2) (by first | omega | exact (hM _ _).1 | exact (hM _ _).2) (by first | omega | exact (hM _ _).1 | exact (hM _ _).2) (by first | omega | exact (hM _ _).1 | exact (hM _ _).2) (fun c3 => ?_) (fun c3 => ?_)
  · refine je_ps jb_X12_letterOf 2 (pc' := 13) (ls' := [_]) (st' := [_, _]) rfl ?_
    refine je_icmpne jb_X12_letterOf rfl (t := 20) rfl (pc' := 16) rfl (by first | omega | exact (hM _ _).1 | exact (hM _ _).2) (by first | omega | exact (hM _ _).1 | exact (hM _ _).2) (by first | omega | exact (hM _ _).1 | exact (hM _ _).2) (by first | omega | exact (hM _ _).1 | exact (hM _ _).2) (fun c13 => ?_) (fun c13 => ?_)
    · refine je_ps jb_X12_letterOf 2 (pc' := 23) (ls' := [_]) (st' := [_, _]) rfl ?_
      refine je_icmpne jb_X12_letterOf rfl (t := 30) rfl (pc' := 26) rfl (by first | omega | exact (hM _ _).1 | exact (hM _ _).2) (by first | omega | exact (hM _ _).1 | exact (hM _ _).2) (by first | omega | exact (hM _ _).1 | exact (hM _ _).2) (by first | omega | exact (hM _ _).1 | exact (hM _ _).2) (fun c23 => ?_) (fun c23 => ?_)
      · refine je_ps jb_X12_letterOf 2 (pc' := 33) (ls' := [_]) (st' := [_, _]) rfl ?_
        refine je_icmpne jb_X12_letterOf rfl (t := 40) rfl (pc' := 36) rfl (by first | omega | exact (hM _ _).1 | exact (hM _ _).2) (by first | omega | exact (hM _ _).1 | exact (hM _ _).2) (by first | omega | exact (hM _ _).1 | exact (hM _ _).2) (by first | omega | exact (hM _ _).1 | exact (hM _ _).2) (fun c33 => ?_) (fun c33 => ?_)
        · refine je_ps jb_X12_letterOf 1 (pc' := 41) (ls' := [_]) (st' := [_]) rfl ?_
          exact je_ret jb_X12_letterOf rfl (by rfl) ⟨by (first | rfl | (refine jv_t ?_; simp only [decide_eq_true_eq]; omega) | (refine jv_f ?_; simp only [decide_eq_false_iff_not]; omega) | (refine jv_I ?_; omega)), by (first | rfl | (refine jv_t ?_; simp only [decide_eq_true_eq]; omega) | (refine jv_f ?_; simp only [decide_eq_false_iff_not]; omega) | (refine jv_I ?_; omega))⟩
        · refine je_ps jb_X12_letterOf 2 (pc' := 41) (ls' := [_]) (st' := [_]) rfl ?_
          exact je_ret jb_X12_letterOf rfl (by rfl) ⟨by (first | rfl | (refine jv_t ?_; simp only [decide_eq_true_eq]; omega) | (refine jv_f ?_; simp only [decide_eq_false_iff_not]; omega) | (refine jv_I ?_; omega)), by (first | rfl | (refine jv_t ?_; simp only [decide_eq_true_eq]; omega) | (refine jv_f ?_; simp only [decide_eq_false_iff_not]; omega) | (refine jv_I ?_; omega))⟩
      · refine je_ps jb_X12_letterOf 2 (pc' := 41) (ls' := [_]) (st' := [_]) rfl ?_
        exact je_ret jb_X12_letterOf rfl (by rfl) ⟨by (first | rfl | (refine jv_t ?_; simp only [decide_eq_true_eq]; omega) | (refine jv_f ?_; simp only [decide_eq_false_iff_not]; omega) | (refine jv_I ?_; omega)), by (first | rfl | (refine jv_t ?_; simp only [decide_eq_true_eq]; omega) | (refine jv_f ?_; simp only [decide_eq_false_iff_not]; omega) | (refine jv_I ?_; omega))⟩
    · refine je_ps jb_X12_letterOf 2 (pc' := 41) (ls' := [_]) (st' := [_]) rfl ?_
      exact je_ret jb_X12_letterOf rfl (by rfl) ⟨by (first | rfl | (refine jv_t ?_; simp only [decide_eq_true_eq]; omega) | (refine jv_f ?_; simp only [decide_eq_false_iff_not]; omega) | (refine jv_I ?_; omega)), by (first | rfl | (refine jv_t ?_; simp only [decide_eq_true_eq]; omega) | (refine jv_f ?_; simp only [decide_eq_false_iff_not]; omega) | (refine jv_I ?_; omega))⟩
  · refine je_ps jb_X12_letterOf 2 (pc' := 41) (ls' := [_]) (st' := [_]) rfl ?_
    exact je_ret jb_X12_letterOf rfl (by rfl) ⟨by (first | rfl | (refine jv_t ?_; simp only [decide_eq_true_eq]; omega) | (refine jv_f ?_; simp only [decide_eq_false_iff_not]; omega) | (refine jv_I ?_; omega)), by (first | rfl | (refine jv_t ?_; simp only [decide_eq_true_eq]; omega) | (refine jv_f ?_; simp only [decide_eq_false_iff_not]; omega) | (refine jv_I ?_; omega))⟩
theorem tD_in {q : wT} {x : Int} (h : tD q x = true) : 0 ≤ x ∧ x < q.2 ∧ 49 ≤ fRAt q.1 q.2 x ∧ fRAt q.1 q.2 x ≤ 57 := by
  have h := of_decide_eq_true h
  unfold fRAt at *
  by_cases c : 0 ≤ x ∧ x < q.2
  · rw [if_pos c] at h ⊢
    exact ⟨c.1, c.2, h⟩
  · rw [if_neg c] at h
    omega
theorem k_gisTimesAt {q : wT} (g : gQs m q) (hz : 0 ≤ q.2 ∧ q.2 ≤ 72) (hf : ∀ p, 0 ≤ q.1 p ∧ q.1 p ≤ 255) {x : Int} (hx : 0 ≤ x ∧ x ≤ 100) : jq sc 2 jm_X12_isTimesAt [.ref 45, .int (jI x)] (jh m r T) (jP (some (.int (jI (jb (tD q x))))) (jh m r T)) := by
  have e22 := g.1
  have gr := fRAt_i q.2 x hf
  refine je_in jb_X12_isTimesAt rfl (ls := [_, _]) rfl ?_
  refine je_ps jb_X12_isTimesAt 2 (pc' := 2) (ls' := [_, _]) (st' := [_, _]) rfl ?_
  refine je_get jb_X12_isTimesAt rfl (pc' := 5) rfl (jh_at (a := 45) rfl) (by rfl) (by rfl) ?_
  refine je_icmpge jb_X12_isTimesAt rfl (t := 28) rfl (pc' := 8) rfl (by first | omega | exact (hM _ _).1 | exact (hM _ _).2) (by first | omega | exact (hM _ _).1 | exact (hM _ _).2) (by first | omega | exact (hM _ _).1 | exact (hM _ _).2) (by first | omega | exact (hM _ _).1 | exact (hM _ _).2) (fun c5 => ?_) (fun c5 => ?_)
  · refine je_ps jb_X12_isTimesAt 1 (pc' := 29) (ls' := [_, _]) (st' := [_]) rfl ?_
    first | (exact je_ret jb_X12_isTimesAt rfl (by rfl) ⟨jv_t (by assumption), rfl⟩) | (exact je_ret jb_X12_isTimesAt rfl (by rfl) ⟨jv_f (by assumption), rfl⟩) | (exact je_ret jb_X12_isTimesAt rfl (by rfl) ⟨jv_f (decide_eq_false fun h => by have := tD_in (decide_eq_true h); omega), rfl⟩)
  · refine je_ps jb_X12_isTimesAt 1 (pc' := 9) (ls' := [_, _]) (st' := [_]) rfl ?_
    refine je_get jb_X12_isTimesAt rfl (pc' := 12) rfl (jh_at (a := 45) rfl) (by rfl) (by rfl) ?_
    refine je_ps jb_X12_isTimesAt 1 (pc' := 13) (ls' := [_, _]) (st' := [_, _]) rfl ?_
    refine je_iald jb_X12_isTimesAt rfl (pc' := 14) rfl (n := 72) (f := _) (jh_at (a := 55) rfl) (by first | omega | exact (hM _ _).1 | exact (hM _ _).2) (by first | omega | exact (hM _ _).1 | exact (hM _ _).2) (by first | omega | exact (hM _ _).1 | exact (hM _ _).2) ?_
    rw [g.at (by omega)]
    refine je_ps jb_X12_isTimesAt 2 (pc' := 18) (ls' := [_, _]) (st' := [_, _, _]) rfl ?_
    refine je_csP' jb_X12_isTimesAt rfl (pc' := 21) rfl (by rfl) (by first | decide | exact Nat.ble_eq_true_of_le (by omega)) (c_X12_isIn (by omega) (by omega) (by omega)) (st' := [_]) rfl ?_
    refine je_ifeqb jb_X12_isTimesAt rfl (t := 28) rfl (pc' := 24) rfl (fun c21 => ?_) (fun c21 => ?_)
    · refine je_ps jb_X12_isTimesAt 1 (pc' := 29) (ls' := [_, _]) (st' := [_]) rfl ?_
      first | (exact je_ret jb_X12_isTimesAt rfl (by rfl) ⟨jv_t (by assumption), rfl⟩) | (exact je_ret jb_X12_isTimesAt rfl (by rfl) ⟨jv_f (by assumption), rfl⟩) | (exact je_ret jb_X12_isTimesAt rfl (by rfl) ⟨jv_f (decide_eq_false fun h => by have := tD_in (decide_eq_true h); omega), rfl⟩)
    · refine je_ps jb_X12_isTimesAt 2 (pc' := 29) (ls' := [_, _]) (st' := [_]) rfl ?_
      first | (exact je_ret jb_X12_isTimesAt rfl (by rfl) ⟨jv_t (by assumption), rfl⟩) | (exact je_ret jb_X12_isTimesAt rfl (by rfl) ⟨jv_f (by assumption), rfl⟩) | (exact je_ret jb_X12_isTimesAt rfl (by rfl) ⟨jv_f (decide_eq_false fun h => by have := tD_in (decide_eq_true h); omega), rfl⟩)
theorem tL_t {q : wT} {p : Int} (h : 0 ≤ fLet (fRAt q.1 q.2 p)) : tL q p = true := decide_eq_true h
theorem tL_f {q : wT} {p : Int} (h : fLet (fRAt q.1 q.2 p) < 0) : tL q p = false := decide_eq_false (by omega)
theorem tL_d {q : wT} {p : Int} (h : tD q p = true) : tL q p = false := by
  have := tD_in h
  have := fLet_c (fRAt q.1 q.2 p)
  exact tL_f (by omega)
theorem tn1 {q : wT} {v : Nat} (f : ∀ i : Nat, i < v → tB q i = false) (h : tL q (v : Int) = true) (d : tD q ((v : Int) + 1) = false) : (∀ i : Nat, i < v + 1 → tB q i = false) ∧ (tM q (v + 1) && tD q ((v + 1 : Nat) : Int)) = false := by
  refine ⟨fun i hi => ?_, ?_⟩
  · by_cases c : i = v
    · subst c
      unfold tB
      rw [h]
      rfl
    · exact f i (by omega)
  · rw [show ((v + 1 : Nat) : Int) = (v : Int) + 1 from rfl, d, Bool.and_false]
theorem tn2 {q : wT} {v : Nat} (f : ∀ i : Nat, i < v → tB q i = false) (h : tL q (v : Int) = true) (d : tD q ((v : Int) + 1) = true) : (∀ i : Nat, i < v + 2 → tB q i = false) ∧ (tM q (v + 2) && tD q ((v + 2 : Nat) : Int)) = false := by
  refine ⟨fun i hi => ?_, ?_⟩
  · by_cases c : i = v + 1
    · subst c
      unfold tB
      rw [show tM q (v + 1) = tL q (v : Int) from rfl, h, show ((v + 1 : Nat) : Int) = (v : Int) + 1 from rfl, d]
      simp
    · by_cases c : i = v
      · subst c
        unfold tB
        rw [h]
        rfl
      · exact f i (by omega)
  · rw [show tM q (v + 2) = tL q ((v + 1 : Nat) : Int) from rfl, show ((v + 1 : Nat) : Int) = (v : Int) + 1 from rfl, tL_d d]
    rfl
theorem tB_l {q : wT} {v : Nat} (b : tB q v = false) (n : (tM q v && tD q (v : Int)) = false) : 0 ≤ fLet (fRAt q.1 q.2 (v : Int)) := by
  cases c : tL q (v : Int) with
  | true => exact of_decide_eq_true c
  | false =>
    unfold tB at b
    rw [c, n] at b
    cases b
theorem tB_t {q : wT} {v : Nat} (h : fLet (fRAt q.1 q.2 (v : Int)) < 0) (n : (tM q v && tD q (v : Int)) = false) : tB q v = true := by
  unfold tB
  rw [tL_f h, n]
  rfl
theorem tSt_l {s n k : Int} {q w : wT} {p : Int} (h : 0 ≤ fLet (fRAt q.1 q.2 p)) : tStep s n k q w p = tRep s n k (fLet (fRAt q.1 q.2 p)) w (tOft q p).toNat := if_neg (by omega)
theorem tSt_d {s n k : Int} {q w : wT} {p : Int} (h : tD q p = true) : tStep s n k q w p = (true, w) := by
  have := of_decide_eq_false (tL_d h)
  exact if_pos (by omega)
theorem tOf_t {q : wT} {p : Int} (h : tD q (p + 1) = true) : tOft q p = fRAt q.1 q.2 (p + 1) - 48 := if_pos h
theorem tOf_f {q : wT} {p : Int} (h : tD q (p + 1) = false) : tOft q p = 1 := if_neg (by rw [h]; decide)
def gFl (s n k : Int) (q : wT) (m : Nat → Int → Int) (r : Nat → Nat → Value) (T : jx_H) : Option Value → jx_H → Prop := fun v σ => ∃ m', v = some (.int (jI (tAns s n k q 0))) ∧ σ = jh m' r T ∧ (m' = m ∨ ∃ L e, m' = gW m 6 L e) ∧ (0 ≤ tAns s n k q 0 → tAns s n k q 0 = 0 ∧ 0 > tStr q ∧ ¬ tF s n k q < q.2.toNat ∧ m' = gW m 6 (tS s n k q q.2.toNat).1 (tS s n k q q.2.toNat).2)
theorem gFl_s {s n k : Int} {q : wT} {p : Nat} (hz : 0 ≤ q.2 ∧ q.2 ≤ 72) (f : ∀ i : Nat, i < p → tB q i = false) (h : (p : Int) = 0 ∧ (p : Int) = q.2 ∨ (p : Int) < q.2 ∧ tB q p = true) : gFl s n k q m r T (some (.int (jI (-1000 - (p : Int))))) (jh m r T) := by
  have e : tStr q = (p : Int) := by
    unfold tStr
    rcases h with h | h
    · rw [show q.2.toNat = 0 by omega]
      rw [if_neg (by show ¬ (0 : Nat) < 0; omega), if_pos (by omega)]
      omega
    · rw [show fFst (tB q) 0 q.2.toNat = p from fFst_hit (P := tB q) h.2 _ 0 (by omega) (by omega) (fun i _ hi => f i hi), if_pos (by omega)]
  have ea : tAns s n k q 0 = -1000 - (p : Int) := by
    unfold tAns
    rw [e, if_pos (by omega)]
  exact ⟨_, by rw [ea], rfl, Or.inl rfl, fun h => by omega⟩
theorem tStr_n {q : wT} (hz : 0 ≤ q.2 ∧ q.2 ≤ 72) (f : ∀ i : Nat, i < q.2.toNat → tB q i = false) (h : q.2 ≠ 0) : tStr q = -1 := by
  unfold tStr
  rw [show fFst (tB q) 0 q.2.toNat = 0 + q.2.toNat from fFst_none (P := tB q) _ 0 (fun i _ hi => f i (by omega)), if_neg (by omega), if_neg h]
theorem gFl_f {s n k : Int} {q : wT} {p : Nat} {L : Int → Int} {e : Int} (ht : tStr q = -1) (hp : p < q.2.toNat) (f : ∀ i : Nat, i < p → (!(tStep s n k q (tS s n k q i) (i : Int)).1) = false) (h : (tStep s n k q (tS s n k q p) (p : Int)).1 = false) : gFl s n k q m r T (some (.int (jI (-2000 - (p : Int))))) (jh (gW m 6 L e) r T) := by
  have ef : tF s n k q = p := fFst_hit (P := fun p : Nat => !(tStep s n k q (tS s n k q p) (p : Int)).1) (by rw [h]; rfl) _ 0 (by omega) (by omega) (fun p _ hp => f p hp)
  have ea : tAns s n k q 0 = -2000 - (p : Int) := by
    unfold tAns
    rw [if_neg (by omega), ef, if_pos hp]
  exact ⟨_, by rw [ea], rfl, Or.inr ⟨_, _, rfl⟩, fun h => by omega⟩
theorem gFl_e {s n k : Int} {q : wT} (ht : tStr q = -1) (f : ∀ i : Nat, i < q.2.toNat → (!(tStep s n k q (tS s n k q i) (i : Int)).1) = false) : gFl s n k q m r T (some (.int (jI 0))) (jh (gW m 6 (tS s n k q q.2.toNat).1 (tS s n k q q.2.toNat).2) r T) := by
  have ef : tF s n k q = 0 + q.2.toNat := fFst_none (P := fun p : Nat => !(tStep s n k q (tS s n k q p) (p : Int)).1) _ 0 (fun p _ hp => f p (by omega))
  have ea : tAns s n k q 0 = 0 := by
    unfold tAns
    rw [if_neg (by omega), ef, if_neg (by omega)]
  exact ⟨_, by rw [ea], rfl, Or.inr ⟨_, _, rfl⟩, fun _ => ⟨ea, by omega, by omega, rfl⟩⟩
/-- one letter more, or a letter and its digit -/
theorem tg1 {s n k : Int} {q : wT} {u : Nat} (f : ∀ i : Nat, i < u → (!(tStep s n k q (tS s n k q i) (i : Int)).1) = false) (h : (tStep s n k q (tS s n k q u) (u : Int)).1 = true) : ∀ i : Nat, i < u + 1 → (!(tStep s n k q (tS s n k q i) (i : Int)).1) = false := by
  intro i hi
  by_cases c : i = u
  · subst c
    rw [h]
    rfl
  · exact f i (by omega)
theorem tg2 {s n k : Int} {q : wT} {u : Nat} (f : ∀ i : Nat, i < u → (!(tStep s n k q (tS s n k q i) (i : Int)).1) = false) (h : (tStep s n k q (tS s n k q u) (u : Int)).1 = true) (d : tD q ((u : Int) + 1) = true) : (∀ i : Nat, i < u + 2 → (!(tStep s n k q (tS s n k q i) (i : Int)).1) = false) ∧ tS s n k q (u + 2) = tS s n k q (u + 1) := by
  have e : tStep s n k q (tS s n k q (u + 1)) ((u + 1 : Nat) : Int) = (true, tS s n k q (u + 1)) := tSt_d d
  refine ⟨tg1 (tg1 f h) (by rw [e]), ?_⟩
  show (tStep s n k q (tS s n k q (u + 1)) ((u + 1 : Nat) : Int)).2 = _
  rw [e]
theorem k_gfault {s n k : Int} {q : wT} (gs : gSt m s n k) (g : gQs m q) (hz : 0 ≤ q.2 ∧ q.2 ≤ 72) (hf : ∀ p, 0 ≤ q.1 p ∧ q.1 p ≤ 255) : jq sc 6 jm_X12_fault [.ref 45] (jh m r T) (gFl s n k q m r T) := by
  have e22 := g.1
  have fs := gs.2
  refine je_in jb_X12_fault rfl (ls := [_, _, _]) rfl ?_
  refine je_ps jb_X12_fault 2 (pc' := 2) (ls' := [_, _, _]) (st' := []) rfl ?_
  refine je_meas (fun (v : Nat) ls σ' => ∃ x, ls = [.ref 45, .int (jI v), x] ∧ σ' = jh m r T ∧ (∀ i : Nat, i < v → tB q i = false) ∧ (tM q v && tD q (v : Int)) = false) (q.2.toNat) (p0 := 0) (by omega) ⟨_, rfl, rfl, fun i hi => by omega, rfl⟩ (fun v hv ls σ' gv kv => ?_)
  obtain ⟨x, rfl, rfl, ⟨f1, f2⟩⟩ := gv
  have gr := fRAt_i q.2 (v : Int) hf
  have gl1 := fLet_c (fRAt q.1 q.2 (v : Int))
  refine je_ps jb_X12_fault 2 (pc' := 4) (ls' := [_, _, _]) (st' := [_, _]) rfl ?_
  refine je_get jb_X12_fault rfl (pc' := 7) rfl (jh_at (a := 45) rfl) (by rfl) (by rfl) ?_
  refine je_icmplt jb_X12_fault rfl (t := 14) rfl (pc' := 10) rfl (by first | omega | exact (hM _ _).1 | exact (hM _ _).2) (by first | omega | exact (hM _ _).1 | exact (hM _ _).2) (by first | omega | exact (hM _ _).1 | exact (hM _ _).2) (by first | omega | exact (hM _ _).1 | exact (hM _ _).2) (fun c7 => ?_) (fun c7 => ?_)
  · refine je_ps jb_X12_fault 2 (pc' := 16) (ls' := [_, _, _]) (st' := [_, _]) rfl ?_
    refine je_get jb_X12_fault rfl (pc' := 19) rfl (jh_at (a := 45) rfl) (by rfl) (by rfl) ?_
    refine je_icmpeq jb_X12_fault rfl (t := 34) rfl (pc' := 22) rfl (by first | omega | exact (hM _ _).1 | exact (hM _ _).2) (by first | omega | exact (hM _ _).1 | exact (hM _ _).2) (by first | omega | exact (hM _ _).1 | exact (hM _ _).2) (by first | omega | exact (hM _ _).1 | exact (hM _ _).2) (fun c19 => ?_) (fun c19 => ?_)
    · refine je_ps jb_X12_fault 2 (pc' := 38) (ls' := [_, _, _]) (st' := [_, _]) rfl ?_
      refine je_isub jb_X12_fault rfl (pc' := 39) rfl ?_
      exact je_ret jb_X12_fault rfl (by rfl) (gFl_s hz f1 (by first | (left; omega) | (right; exact ⟨by omega, tB_t (by omega) f2⟩)))
    · refine je_ps jb_X12_fault 1 (pc' := 23) (ls' := [_, _, _]) (st' := [_]) rfl ?_
      refine je_get jb_X12_fault rfl (pc' := 26) rfl (jh_at (a := 45) rfl) (by rfl) (by rfl) ?_
      refine je_ps jb_X12_fault 1 (pc' := 27) (ls' := [_, _, _]) (st' := [_, _]) rfl ?_
      refine je_iald jb_X12_fault rfl (pc' := 28) rfl (n := 72) (f := _) (jh_at (a := 55) rfl) (by first | omega | exact (hM _ _).1 | exact (hM _ _).2) (by first | omega | exact (hM _ _).1 | exact (hM _ _).2) (by first | omega | exact (hM _ _).1 | exact (hM _ _).2) ?_
      rw [g.at (by omega)]
      refine je_csP' jb_X12_fault rfl (pc' := 31) rfl (by rfl) (by first | decide | exact Nat.ble_eq_true_of_le (by omega)) (c_X12_letterOf (by omega)) (st' := [_]) rfl ?_
      refine je_ifge jb_X12_fault rfl (t := 40) rfl (pc' := 34) rfl (by first | omega | exact (hM _ _).1 | exact (hM _ _).2) (by first | omega | exact (hM _ _).1 | exact (hM _ _).2) (fun c31 => ?_) (fun c31 => ?_)
      · refine je_ps jb_X12_fault 4 (pc' := 44) (ls' := [_, _, _]) (st' := [_, _, _, _]) rfl ?_
        refine je_iadd jb_X12_fault rfl (pc' := 45) rfl ?_
        refine je_cvP' jb_X12_fault rfl (pc' := 48) rfl (jh_at (a := 45) rfl) (by rfl) (by first | decide | exact Nat.ble_eq_true_of_le (by omega)) (k_gisTimesAt g hz hf (by omega)) (st' := [_, _]) rfl ?_
        refine je_ifeqb jb_X12_fault rfl (t := 55) rfl (pc' := 51) rfl (fun c48 => ?_) (fun c48 => ?_)
        · refine je_ps jb_X12_fault 1 (pc' := 56) (ls' := [_, _, _]) (st' := [_, _]) rfl ?_
          refine je_iadd jb_X12_fault rfl (pc' := 57) rfl ?_
          refine je_ps jb_X12_fault 2 (pc' := 2) (ls' := [_, _, _]) (st' := []) rfl ?_
          first | exact kv (v + 2) _ _ (by omega) (by have := tD_in c48; omega) ⟨_, rfl, rfl, tn2 f1 (tL_t (by omega)) c48⟩ | exact kv (v + 1) _ _ (by omega) (by omega) ⟨_, rfl, rfl, tn1 f1 (tL_t (by omega)) c48⟩
        · refine je_ps jb_X12_fault 2 (pc' := 56) (ls' := [_, _, _]) (st' := [_, _]) rfl ?_
          refine je_iadd jb_X12_fault rfl (pc' := 57) rfl ?_
          refine je_ps jb_X12_fault 2 (pc' := 2) (ls' := [_, _, _]) (st' := []) rfl ?_
          first | exact kv (v + 2) _ _ (by omega) (by have := tD_in c48; omega) ⟨_, rfl, rfl, tn2 f1 (tL_t (by omega)) c48⟩ | exact kv (v + 1) _ _ (by omega) (by omega) ⟨_, rfl, rfl, tn1 f1 (tL_t (by omega)) c48⟩
      · refine je_ps jb_X12_fault 2 (pc' := 38) (ls' := [_, _, _]) (st' := [_, _]) rfl ?_
        refine je_isub jb_X12_fault rfl (pc' := 39) rfl ?_
        exact je_ret jb_X12_fault rfl (by rfl) (gFl_s hz f1 (by first | (left; omega) | (right; exact ⟨by omega, tB_t (by omega) f2⟩)))
  · refine je_ps jb_X12_fault 1 (pc' := 11) (ls' := [_, _, _]) (st' := [_]) rfl ?_
    refine je_ifne jb_X12_fault rfl (t := 61) rfl (pc' := 14) rfl (by first | omega | exact (hM _ _).1 | exact (hM _ _).2) (by first | omega | exact (hM _ _).1 | exact (hM _ _).2) (fun c11 => ?_) (fun c11 => ?_)
    · have et := tStr_n hz (fun i hi => f1 i (by omega)) (by omega)
      refine je_ps jb_X12_fault 2 (pc' := 64) (ls' := [_, _, _]) (st' := [_, _]) rfl ?_
      refine je_cvP' jb_X12_fault rfl (pc' := 67) rfl (jh_at (a := 45) rfl) (by rfl) (by first | decide | exact Nat.ble_eq_true_of_le (by omega)) (k_gbares (by omega)) (st' := []) rfl ?_
      refine je_ps jb_X12_fault 2 (pc' := 69) (ls' := [_, _, _]) (st' := []) rfl ?_
      refine je_meas (fun (u : Nat) ls σ' => ∃ y, ls = [.ref 45, .int (jI u), y] ∧ σ' = jh (gW m 6 (tS s n k q u).1 (tS s n k q u).2) r T ∧ (∀ i : Nat, i < u → (!(tStep s n k q (tS s n k q i) (i : Int)).1) = false) ∧ (tM q u && tD q (u : Int)) = false) (q.2.toNat) (p0 := 0) (by omega) ⟨_, rfl, rfl, fun i hi => by omega, rfl⟩ (fun u hu ls σ' gu ku => ?_)
      obtain ⟨y, rfl, rfl, ⟨f3, f4⟩⟩ := gu
      have gru := fRAt_i q.2 (u : Int) hf
      have gl := fLet_c (fRAt q.1 q.2 (u : Int))
      have g2 := g.w 6 (tS s n k q u).1 (tS s n k q u).2
      have e23 := g2.1
      have so := tS_ok (q := q) fs u
      have gk := gWk.w (w := 6) gs (by omega) so.1 so.2
      refine je_ps jb_X12_fault 2 (pc' := 71) (ls' := [_, _, _]) (st' := [_, _]) rfl ?_
      refine je_get jb_X12_fault rfl (pc' := 74) rfl (jh_at (a := 45) rfl) (by rfl) (by rfl) ?_
      refine je_icmpge jb_X12_fault rfl (t := 149) rfl (pc' := 77) rfl (by first | omega | exact (hM _ _).1 | exact (hM _ _).2) (by first | omega | exact (hM _ _).1 | exact (hM _ _).2) (by first | omega | exact (hM _ _).1 | exact (hM _ _).2) (by first | omega | exact (hM _ _).1 | exact (hM _ _).2) (fun c74 => ?_) (fun c74 => ?_)
      · refine je_ps jb_X12_fault 1 (pc' := 150) (ls' := [_, _, _]) (st' := [_]) rfl ?_
        rw [show u = q.2.toNat by omega]
        exact je_ret jb_X12_fault rfl (by rfl) (gFl_e et (fun i hi => f3 i (by omega)))
      · refine je_ps jb_X12_fault 3 (pc' := 80) (ls' := [_, _, _]) (st' := [_, _, _]) rfl ?_
        refine je_iadd jb_X12_fault rfl (pc' := 81) rfl ?_
        refine je_cvP' jb_X12_fault rfl (pc' := 84) rfl (jh_at (a := 45) rfl) (by rfl) (by first | decide | exact Nat.ble_eq_true_of_le (by omega)) (k_gisTimesAt g2 hz hf (by omega)) (st' := [_]) rfl ?_
        refine je_ifeqb jb_X12_fault rfl (t := 101) rfl (pc' := 87) rfl (fun c84 => ?_) (fun c84 => ?_)
        · refine je_ps jb_X12_fault 5 (pc' := 107) (ls' := [_, _, _]) (st' := [_, _, _]) rfl ?_
          refine je_get jb_X12_fault rfl (pc' := 110) rfl (jh_at (a := 45) rfl) (by rfl) (by rfl) ?_
          refine je_ps jb_X12_fault 1 (pc' := 111) (ls' := [_, _, _]) (st' := [_, _, _, _]) rfl ?_
          refine je_iald jb_X12_fault rfl (pc' := 112) rfl (n := 72) (f := _) (jh_at (a := 55) rfl) (by first | omega | exact (hM _ _).1 | exact (hM _ _).2) (by first | omega | exact (hM _ _).1 | exact (hM _ _).2) (by first | omega | exact (hM _ _).1 | exact (hM _ _).2) ?_
          have hl := tB_l (f1 u (by omega)) f4
          rw [g2.at (p := (u : Int)) (by omega)]
          refine je_csP' jb_X12_fault rfl (pc' := 115) rfl (by rfl) (by first | decide | exact Nat.ble_eq_true_of_le (by omega)) (c_X12_letterOf (by omega)) (st' := [_, _, _]) rfl ?_
          refine je_ps jb_X12_fault 1 (pc' := 116) (ls' := [_, _, _]) (st' := [_, _, _, _]) rfl ?_
          refine je_cvP' jb_X12_fault rfl (pc' := 119) rfl (jh_at (a := 45) rfl) (by rfl) (by first | decide | exact Nat.ble_eq_true_of_le (by omega)) (k_gdoesTimesI gk (by omega) (by omega)) (st' := [_]) rfl ?_
          refine je_ifneb jb_X12_fault rfl (t := 128) rfl (pc' := 122) rfl (fun c119 => ?_) (fun c119 => ?_)
          · have hst : (tStep s n k q (tS s n k q u) (u : Int)).1 = true := (by rw [tSt_l hl]; first | (rw [tOf_t c84]; exact c119) | (rw [tOf_f c84]; exact c119))
            have hs1 : tS s n k q (u + 1) = (tStep s n k q (tS s n k q u) (u : Int)).2 := rfl
            rw [tSt_l hl] at hs1
            first | rw [tOf_t c84] at hs1 | rw [tOf_f c84] at hs1
            rw [gW_W]
            refine je_ps jb_X12_fault 4 (pc' := 132) (ls' := [_, _, _]) (st' := [_, _, _, _]) rfl ?_
            refine je_iadd jb_X12_fault rfl (pc' := 133) rfl ?_
            refine je_cvP' jb_X12_fault rfl (pc' := 136) rfl (jh_at (a := 45) rfl) (by rfl) (by first | decide | exact Nat.ble_eq_true_of_le (by omega)) (k_gisTimesAt (g.w _ _ _) hz hf (by omega)) (st' := [_, _]) rfl ?_
            refine je_ifeqb jb_X12_fault rfl (t := 143) rfl (pc' := 139) rfl (fun c136 => ?_) (fun c136 => ?_)
            · refine je_ps jb_X12_fault 1 (pc' := 144) (ls' := [_, _, _]) (st' := [_, _]) rfl ?_
              refine je_iadd jb_X12_fault rfl (pc' := 145) rfl ?_
              refine je_ps jb_X12_fault 2 (pc' := 69) (ls' := [_, _, _]) (st' := []) rfl ?_
              first | (rw [c84] at c136; cases c136; done) | exact ku (u + 2) _ _ (by omega) (by have := tD_in c136; omega) ⟨_, rfl, by rw [(tg2 f3 hst c136).2, hs1], (tg2 f3 hst c136).1, (tn2 (fun i hi => f1 i (by omega)) (tL_t hl) c136).2⟩ | exact ku (u + 1) _ _ (by omega) (by omega) ⟨_, rfl, by rw [hs1], tg1 f3 hst, (tn1 (fun i hi => f1 i (by omega)) (tL_t hl) c136).2⟩
            · refine je_ps jb_X12_fault 2 (pc' := 144) (ls' := [_, _, _]) (st' := [_, _]) rfl ?_
              refine je_iadd jb_X12_fault rfl (pc' := 145) rfl ?_
              refine je_ps jb_X12_fault 2 (pc' := 69) (ls' := [_, _, _]) (st' := []) rfl ?_
              first | (rw [c84] at c136; cases c136; done) | exact ku (u + 2) _ _ (by omega) (by have := tD_in c136; omega) ⟨_, rfl, by rw [(tg2 f3 hst c136).2, hs1], (tg2 f3 hst c136).1, (tn2 (fun i hi => f1 i (by omega)) (tL_t hl) c136).2⟩ | exact ku (u + 1) _ _ (by omega) (by omega) ⟨_, rfl, by rw [hs1], tg1 f3 hst, (tn1 (fun i hi => f1 i (by omega)) (tL_t hl) c136).2⟩
          · have hst : (tStep s n k q (tS s n k q u) (u : Int)).1 = false := by rw [tSt_l hl]; first | (rw [tOf_t c84]; exact c119) | (rw [tOf_f c84]; exact c119)
            refine je_ps jb_X12_fault 2 (pc' := 126) (ls' := [_, _, _]) (st' := [_, _]) rfl ?_
            refine je_isub jb_X12_fault rfl (pc' := 127) rfl ?_
            rw [gW_W]
            exact je_ret jb_X12_fault rfl (by rfl) (gFl_f et (by omega) f3 hst)
        · have bd := tD_in c84
          refine je_ps jb_X12_fault 1 (pc' := 88) (ls' := [_, _, _]) (st' := [_]) rfl ?_
          refine je_get jb_X12_fault rfl (pc' := 91) rfl (jh_at (a := 45) rfl) (by rfl) (by rfl) ?_
          refine je_ps jb_X12_fault 2 (pc' := 93) (ls' := [_, _, _]) (st' := [_, _, _]) rfl ?_
          refine je_iadd jb_X12_fault rfl (pc' := 94) rfl ?_
          refine je_iald jb_X12_fault rfl (pc' := 95) rfl (n := 72) (f := _) (jh_at (a := 55) rfl) (by first | omega | exact (hM _ _).1 | exact (hM _ _).2) (by first | omega | exact (hM _ _).1 | exact (hM _ _).2) (by first | omega | exact (hM _ _).1 | exact (hM _ _).2) ?_
          rw [g2.at (p := (u : Int) + 1) (by omega)]
          refine je_ps jb_X12_fault 1 (pc' := 97) (ls' := [_, _, _]) (st' := [_, _]) rfl ?_
          refine je_isub jb_X12_fault rfl (pc' := 98) rfl ?_
          refine je_ps jb_X12_fault 5 (pc' := 107) (ls' := [_, _, _]) (st' := [_, _, _]) rfl ?_
          refine je_get jb_X12_fault rfl (pc' := 110) rfl (jh_at (a := 45) rfl) (by rfl) (by rfl) ?_
          refine je_ps jb_X12_fault 1 (pc' := 111) (ls' := [_, _, _]) (st' := [_, _, _, _]) rfl ?_
          refine je_iald jb_X12_fault rfl (pc' := 112) rfl (n := 72) (f := _) (jh_at (a := 55) rfl) (by first | omega | exact (hM _ _).1 | exact (hM _ _).2) (by first | omega | exact (hM _ _).1 | exact (hM _ _).2) (by first | omega | exact (hM _ _).1 | exact (hM _ _).2) ?_
          have hl := tB_l (f1 u (by omega)) f4
          rw [g2.at (p := (u : Int)) (by omega)]
          refine je_csP' jb_X12_fault rfl (pc' := 115) rfl (by rfl) (by first | decide | exact Nat.ble_eq_true_of_le (by omega)) (c_X12_letterOf (by omega)) (st' := [_, _, _]) rfl ?_
          refine je_ps jb_X12_fault 1 (pc' := 116) (ls' := [_, _, _]) (st' := [_, _, _, _]) rfl ?_
          refine je_cvP' jb_X12_fault rfl (pc' := 119) rfl (jh_at (a := 45) rfl) (by rfl) (by first | decide | exact Nat.ble_eq_true_of_le (by omega)) (k_gdoesTimesI gk (by omega) (by omega)) (st' := [_]) rfl ?_
          refine je_ifneb jb_X12_fault rfl (t := 128) rfl (pc' := 122) rfl (fun c119 => ?_) (fun c119 => ?_)
          · have hst : (tStep s n k q (tS s n k q u) (u : Int)).1 = true := (by rw [tSt_l hl]; first | (rw [tOf_t c84]; exact c119) | (rw [tOf_f c84]; exact c119))
            have hs1 : tS s n k q (u + 1) = (tStep s n k q (tS s n k q u) (u : Int)).2 := rfl
            rw [tSt_l hl] at hs1
            first | rw [tOf_t c84] at hs1 | rw [tOf_f c84] at hs1
            rw [gW_W]
            refine je_ps jb_X12_fault 4 (pc' := 132) (ls' := [_, _, _]) (st' := [_, _, _, _]) rfl ?_
            refine je_iadd jb_X12_fault rfl (pc' := 133) rfl ?_
            refine je_cvP' jb_X12_fault rfl (pc' := 136) rfl (jh_at (a := 45) rfl) (by rfl) (by first | decide | exact Nat.ble_eq_true_of_le (by omega)) (k_gisTimesAt (g.w _ _ _) hz hf (by omega)) (st' := [_, _]) rfl ?_
            refine je_ifeqb jb_X12_fault rfl (t := 143) rfl (pc' := 139) rfl (fun c136 => ?_) (fun c136 => ?_)
            · refine je_ps jb_X12_fault 1 (pc' := 144) (ls' := [_, _, _]) (st' := [_, _]) rfl ?_
              refine je_iadd jb_X12_fault rfl (pc' := 145) rfl ?_
              refine je_ps jb_X12_fault 2 (pc' := 69) (ls' := [_, _, _]) (st' := []) rfl ?_
              first | (rw [c84] at c136; cases c136; done) | exact ku (u + 2) _ _ (by omega) (by have := tD_in c136; omega) ⟨_, rfl, by rw [(tg2 f3 hst c136).2, hs1], (tg2 f3 hst c136).1, (tn2 (fun i hi => f1 i (by omega)) (tL_t hl) c136).2⟩ | exact ku (u + 1) _ _ (by omega) (by omega) ⟨_, rfl, by rw [hs1], tg1 f3 hst, (tn1 (fun i hi => f1 i (by omega)) (tL_t hl) c136).2⟩
            · refine je_ps jb_X12_fault 2 (pc' := 144) (ls' := [_, _, _]) (st' := [_, _]) rfl ?_
              refine je_iadd jb_X12_fault rfl (pc' := 145) rfl ?_
              refine je_ps jb_X12_fault 2 (pc' := 69) (ls' := [_, _, _]) (st' := []) rfl ?_
              first | (rw [c84] at c136; cases c136; done) | exact ku (u + 2) _ _ (by omega) (by have := tD_in c136; omega) ⟨_, rfl, by rw [(tg2 f3 hst c136).2, hs1], (tg2 f3 hst c136).1, (tn2 (fun i hi => f1 i (by omega)) (tL_t hl) c136).2⟩ | exact ku (u + 1) _ _ (by omega) (by omega) ⟨_, rfl, by rw [hs1], tg1 f3 hst, (tn1 (fun i hi => f1 i (by omega)) (tL_t hl) c136).2⟩
          · have hst : (tStep s n k q (tS s n k q u) (u : Int)).1 = false := by rw [tSt_l hl]; first | (rw [tOf_t c84]; exact c119) | (rw [tOf_f c84]; exact c119)
            refine je_ps jb_X12_fault 2 (pc' := 126) (ls' := [_, _, _]) (st' := [_, _]) rfl ?_
            refine je_isub jb_X12_fault rfl (pc' := 127) rfl ?_
            rw [gW_W]
            exact je_ret jb_X12_fault rfl (by rfl) (gFl_f et (by omega) f3 hst)
    · refine je_ps jb_X12_fault 2 (pc' := 16) (ls' := [_, _, _]) (st' := [_, _]) rfl ?_
      refine je_get jb_X12_fault rfl (pc' := 19) rfl (jh_at (a := 45) rfl) (by rfl) (by rfl) ?_
      refine je_icmpeq jb_X12_fault rfl (t := 34) rfl (pc' := 22) rfl (by first | omega | exact (hM _ _).1 | exact (hM _ _).2) (by first | omega | exact (hM _ _).1 | exact (hM _ _).2) (by first | omega | exact (hM _ _).1 | exact (hM _ _).2) (by first | omega | exact (hM _ _).1 | exact (hM _ _).2) (fun c19 => ?_) (fun c19 => ?_)
      · refine je_ps jb_X12_fault 2 (pc' := 38) (ls' := [_, _, _]) (st' := [_, _]) rfl ?_
        refine je_isub jb_X12_fault rfl (pc' := 39) rfl ?_
        exact je_ret jb_X12_fault rfl (by rfl) (gFl_s hz f1 (by first | (left; omega) | (right; exact ⟨by omega, tB_t (by omega) f2⟩)))
      · refine je_ps jb_X12_fault 1 (pc' := 23) (ls' := [_, _, _]) (st' := [_]) rfl ?_
        refine je_get jb_X12_fault rfl (pc' := 26) rfl (jh_at (a := 45) rfl) (by rfl) (by rfl) ?_
        refine je_ps jb_X12_fault 1 (pc' := 27) (ls' := [_, _, _]) (st' := [_, _]) rfl ?_
        refine je_iald jb_X12_fault rfl (pc' := 28) rfl (n := 72) (f := _) (jh_at (a := 55) rfl) (by first | omega | exact (hM _ _).1 | exact (hM _ _).2) (by first | omega | exact (hM _ _).1 | exact (hM _ _).2) (by first | omega | exact (hM _ _).1 | exact (hM _ _).2) ?_
        rw [g.at (by omega)]
        refine je_csP' jb_X12_fault rfl (pc' := 31) rfl (by rfl) (by first | decide | exact Nat.ble_eq_true_of_le (by omega)) (c_X12_letterOf (by omega)) (st' := [_]) rfl ?_
        refine je_ifge jb_X12_fault rfl (t := 40) rfl (pc' := 34) rfl (by first | omega | exact (hM _ _).1 | exact (hM _ _).2) (by first | omega | exact (hM _ _).1 | exact (hM _ _).2) (fun c31 => ?_) (fun c31 => ?_)
        · refine je_ps jb_X12_fault 4 (pc' := 44) (ls' := [_, _, _]) (st' := [_, _, _, _]) rfl ?_
          refine je_iadd jb_X12_fault rfl (pc' := 45) rfl ?_
          refine je_cvP' jb_X12_fault rfl (pc' := 48) rfl (jh_at (a := 45) rfl) (by rfl) (by first | decide | exact Nat.ble_eq_true_of_le (by omega)) (k_gisTimesAt g hz hf (by omega)) (st' := [_, _]) rfl ?_
          refine je_ifeqb jb_X12_fault rfl (t := 55) rfl (pc' := 51) rfl (fun c48 => ?_) (fun c48 => ?_)
          · refine je_ps jb_X12_fault 1 (pc' := 56) (ls' := [_, _, _]) (st' := [_, _]) rfl ?_
            refine je_iadd jb_X12_fault rfl (pc' := 57) rfl ?_
            refine je_ps jb_X12_fault 2 (pc' := 2) (ls' := [_, _, _]) (st' := []) rfl ?_
            first | exact kv (v + 2) _ _ (by omega) (by have := tD_in c48; omega) ⟨_, rfl, rfl, tn2 f1 (tL_t (by omega)) c48⟩ | exact kv (v + 1) _ _ (by omega) (by omega) ⟨_, rfl, rfl, tn1 f1 (tL_t (by omega)) c48⟩
          · refine je_ps jb_X12_fault 2 (pc' := 56) (ls' := [_, _, _]) (st' := [_, _]) rfl ?_
            refine je_iadd jb_X12_fault rfl (pc' := 57) rfl ?_
            refine je_ps jb_X12_fault 2 (pc' := 2) (ls' := [_, _, _]) (st' := []) rfl ?_
            first | exact kv (v + 2) _ _ (by omega) (by have := tD_in c48; omega) ⟨_, rfl, rfl, tn2 f1 (tL_t (by omega)) c48⟩ | exact kv (v + 1) _ _ (by omega) (by omega) ⟨_, rfl, rfl, tn1 f1 (tL_t (by omega)) c48⟩
        · refine je_ps jb_X12_fault 2 (pc' := 38) (ls' := [_, _, _]) (st' := [_, _]) rfl ?_
          refine je_isub jb_X12_fault rfl (pc' := 39) rfl ?_
          exact je_ret jb_X12_fault rfl (by rfl) (gFl_s hz f1 (by first | (left; omega) | (right; exact ⟨by omega, tB_t (by omega) f2⟩)))
end C71
