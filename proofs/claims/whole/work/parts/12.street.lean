/-! THE STREET and the small statics -/
section C12
variable {sc : Nat × (Nat → Int32)} {m : Nat → Int → Int} {r : Nat → Nat → Value} {T : jx_H} {σ : jx_H}
/-- a street's numbers -/
def fS (s n k : Int) : Prop := (s = 0 ∧ n = 25 ∨ s = 1 ∧ 3 ≤ n ∧ n ≤ 8) ∧ 2 ≤ k ∧ k ≤ 5
def jStr (m : Nat → Int → Int) (i : Nat) (s n k : Int) : Prop := (m (jws i) 0 = s ∧ m (jws i) 1 = n ∧ m (jws i) 2 = k) ∧ fS s n k
def fLo (s : Int) : Int := if s = 0 then -12 else 0
theorem fLo_c (s : Int) : (s = 0 ∧ fLo s = -12) ∨ (s ≠ 0 ∧ fLo s = 0) := by
  unfold fLo
  by_cases h : s = 0 <;> simp [h]
def fHas (s n c : Int) : Bool := decide (fLo s ≤ c ∧ c < fLo s + n)
def fPl (s n c : Int) : Int := if fHas s n c = true then c - fLo s else -1
def fRe (s n c b : Int) : Int := if s = 1 then (c + b) % n else c + b
theorem fHas_t {s n c : Int} (h : fHas s n c = true) : fLo s ≤ c ∧ c < fLo s + n := of_decide_eq_true h
theorem fHas_f {s n c : Int} (h : fHas s n c = false) : ¬ (fLo s ≤ c ∧ c < fLo s + n) := of_decide_eq_false h
theorem fPl_c (s n c : Int) : (fHas s n c = true ∧ fPl s n c = c - fLo s) ∨ (fHas s n c = false ∧ fPl s n c = -1) := by
  unfold fPl
  by_cases h : fHas s n c = true
  · simp [h]
  · simp [Bool.not_eq_true _ ▸ h]
def fIn (c : Int) : Prop := -2147483648 ≤ c ∧ c ≤ 2147483647
/-- around -/
theorem c_X11_around {a n : Int} (h1 : -2147483648 ≤ a) (h2 : a ≤ 2147483647) (h3 : 0 < n) (h4 : n ≤ 2147483647) : jq sc 1 jm_X11_around [.int (jI a), .int (jI n)] σ (jP (some (.int (jI (a % n)))) σ) := by
  refine je_in jb_X11_around rfl (ls := [_, _]) rfl ?_
  refine je_ps jb_X11_around 1 (pc' := 1) (ls' := [_, _]) (st' := [_]) rfl ?_
  refine je_ifle jb_X11_around rfl (t := 12) rfl (pc' := 4) rfl (by first | omega | exact (hM _ _).1 | exact (hM _ _).2) (by first | omega | exact (hM _ _).1 | exact (hM _ _).2) (fun c1 => ?_) (fun c1 => ?_)
  · first | (exfalso; omega) | (cases c1; done) | (exfalso; simp_all; done)
  · refine je_ps jb_X11_around 2 (pc' := 6) (ls' := [_, _]) (st' := [_, _]) rfl ?_
    refine je_fm jb_X11_around rfl (pc' := 9) rfl rfl rfl (by first | omega | exact (hM _ _).1 | exact (hM _ _).2) (by first | omega | exact (hM _ _).1 | exact (hM _ _).2) (by first | omega | exact (hM _ _).1 | exact (hM _ _).2) (by first | omega | exact (hM _ _).1 | exact (hM _ _).2) ?_
    refine je_ps jb_X11_around 1 (pc' := 13) (ls' := [_, _]) (st' := [_]) rfl ?_
    exact je_ret jb_X11_around rfl (by rfl) ⟨by (first | rfl | (refine jv_t ?_; simp only [decide_eq_true_eq]; omega) | (refine jv_f ?_; simp only [decide_eq_false_iff_not]; omega) | (refine jv_I ?_; omega)), by (first | rfl | (refine jv_t ?_; simp only [decide_eq_true_eq]; omega) | (refine jv_f ?_; simp only [decide_eq_false_iff_not]; omega) | (refine jv_I ?_; omega))⟩
theorem c_X5_isLine {i : Nat} (hi : i < 13) {s n k : Int} (g : jStr m i s n k) : jq sc 1 jm_X5_isLine [.ref (jws i)] (jh m r T) (jP (some (.int (jI (jb (decide (s = 0)))))) (jh m r T)) := by
  obtain ⟨⟨e1, e2, e3⟩, gs, gk⟩ := g
  refine je_in jb_X5_isLine rfl (ls := [_]) rfl ?_
  refine je_ps jb_X5_isLine 1 (pc' := 1) (ls' := [_]) (st' := [_]) rfl ?_
  refine je_get jb_X5_isLine rfl (pc' := 4) rfl (jh_str hi) (by rfl) (by rfl) ?_
  refine je_ifne jb_X5_isLine rfl (t := 11) rfl (pc' := 7) rfl (by first | omega | exact (hM _ _).1 | exact (hM _ _).2) (by first | omega | exact (hM _ _).1 | exact (hM _ _).2) (fun c4 => ?_) (fun c4 => ?_)
  · refine je_ps jb_X5_isLine 1 (pc' := 12) (ls' := [_]) (st' := [_]) rfl ?_
    exact je_ret jb_X5_isLine rfl (by rfl) ⟨by (first | rfl | (refine jv_t ?_; simp only [decide_eq_true_eq]; omega) | (refine jv_f ?_; simp only [decide_eq_false_iff_not]; omega) | (refine jv_I ?_; omega)), by (first | rfl | (refine jv_t ?_; simp only [decide_eq_true_eq]; omega) | (refine jv_f ?_; simp only [decide_eq_false_iff_not]; omega) | (refine jv_I ?_; omega))⟩
  · refine je_ps jb_X5_isLine 2 (pc' := 12) (ls' := [_]) (st' := [_]) rfl ?_
    exact je_ret jb_X5_isLine rfl (by rfl) ⟨by (first | rfl | (refine jv_t ?_; simp only [decide_eq_true_eq]; omega) | (refine jv_f ?_; simp only [decide_eq_false_iff_not]; omega) | (refine jv_I ?_; omega)), by (first | rfl | (refine jv_t ?_; simp only [decide_eq_true_eq]; omega) | (refine jv_f ?_; simp only [decide_eq_false_iff_not]; omega) | (refine jv_I ?_; omega))⟩
theorem c_X5_least {i : Nat} (hi : i < 13) {s n k : Int} (g : jStr m i s n k) : jq sc 1 jm_X5_least [.ref (jws i)] (jh m r T) (jP (some (.int (jI (fLo s)))) (jh m r T)) := by
  obtain ⟨⟨e1, e2, e3⟩, gs, gk⟩ := g
  have gl := fLo_c s
  refine je_in jb_X5_least rfl (ls := [_]) rfl ?_
  refine je_ps jb_X5_least 1 (pc' := 1) (ls' := [_]) (st' := [_]) rfl ?_
  refine je_get jb_X5_least rfl (pc' := 4) rfl (jh_str hi) (by rfl) (by rfl) ?_
  refine je_ifne jb_X5_least rfl (t := 12) rfl (pc' := 7) rfl (by first | omega | exact (hM _ _).1 | exact (hM _ _).2) (by first | omega | exact (hM _ _).1 | exact (hM _ _).2) (fun c4 => ?_) (fun c4 => ?_)
  · refine je_ps jb_X5_least 1 (pc' := 13) (ls' := [_]) (st' := [_]) rfl ?_
    exact je_ret jb_X5_least rfl (by rfl) ⟨by (first | rfl | (refine jv_t ?_; simp only [decide_eq_true_eq]; omega) | (refine jv_f ?_; simp only [decide_eq_false_iff_not]; omega) | (refine jv_I ?_; omega)), by (first | rfl | (refine jv_t ?_; simp only [decide_eq_true_eq]; omega) | (refine jv_f ?_; simp only [decide_eq_false_iff_not]; omega) | (refine jv_I ?_; omega))⟩
  · refine je_ps jb_X5_least 2 (pc' := 13) (ls' := [_]) (st' := [_]) rfl ?_
    exact je_ret jb_X5_least rfl (by rfl) ⟨by (first | rfl | (refine jv_t ?_; simp only [decide_eq_true_eq]; omega) | (refine jv_f ?_; simp only [decide_eq_false_iff_not]; omega) | (refine jv_I ?_; omega)), by (first | rfl | (refine jv_t ?_; simp only [decide_eq_true_eq]; omega) | (refine jv_f ?_; simp only [decide_eq_false_iff_not]; omega) | (refine jv_I ?_; omega))⟩
theorem c_X5_has {i : Nat} (hi : i < 13) {s n k c : Int} (g : jStr m i s n k) (hc : -2147483648 ≤ c ∧ c ≤ 2147483647) : jq sc 2 jm_X5_has [.ref (jws i), .int (jI c)] (jh m r T) (jP (some (.int (jI (jb (fHas s n c))))) (jh m r T)) := by
  have g' := g
  obtain ⟨⟨e1, e2, e3⟩, gs, gk⟩ := g'
  have gl := fLo_c s
  unfold fHas
  refine je_in jb_X5_has rfl (ls := [_, _]) rfl ?_
  refine je_ps jb_X5_has 2 (pc' := 2) (ls' := [_, _]) (st' := [_, _]) rfl ?_
  refine je_cvP' jb_X5_has rfl (pc' := 5) rfl (jh_str hi) (by rfl) (by first | decide | exact Nat.ble_eq_true_of_le (by omega)) (c_X5_least hi g) (st' := [_, _]) rfl ?_
  refine je_icmplt jb_X5_has rfl (t := 25) rfl (pc' := 8) rfl (by first | omega | exact (hM _ _).1 | exact (hM _ _).2) (by first | omega | exact (hM _ _).1 | exact (hM _ _).2) (by first | omega | exact (hM _ _).1 | exact (hM _ _).2) (by first | omega | exact (hM _ _).1 | exact (hM _ _).2) (fun c5 => ?_) (fun c5 => ?_)
  · refine je_ps jb_X5_has 1 (pc' := 26) (ls' := [_, _]) (st' := [_]) rfl ?_
    exact je_ret jb_X5_has rfl (by rfl) ⟨by (first | rfl | (refine jv_t ?_; simp only [decide_eq_true_eq]; omega) | (refine jv_f ?_; simp only [decide_eq_false_iff_not]; omega) | (refine jv_I ?_; omega)), by (first | rfl | (refine jv_t ?_; simp only [decide_eq_true_eq]; omega) | (refine jv_f ?_; simp only [decide_eq_false_iff_not]; omega) | (refine jv_I ?_; omega))⟩
  · refine je_ps jb_X5_has 2 (pc' := 10) (ls' := [_, _]) (st' := [_, _]) rfl ?_
    refine je_cvP' jb_X5_has rfl (pc' := 13) rfl (jh_str hi) (by rfl) (by first | decide | exact Nat.ble_eq_true_of_le (by omega)) (c_X5_least hi g) (st' := [_, _]) rfl ?_
    refine je_ps jb_X5_has 1 (pc' := 14) (ls' := [_, _]) (st' := [_, _, _]) rfl ?_
    refine je_get jb_X5_has rfl (pc' := 17) rfl (jh_str hi) (by rfl) (by rfl) ?_
    refine je_iadd jb_X5_has rfl (pc' := 18) rfl ?_
    refine je_icmpge jb_X5_has rfl (t := 25) rfl (pc' := 21) rfl (by first | omega | exact (hM _ _).1 | exact (hM _ _).2) (by first | omega | exact (hM _ _).1 | exact (hM _ _).2) (by first | omega | exact (hM _ _).1 | exact (hM _ _).2) (by first | omega | exact (hM _ _).1 | exact (hM _ _).2) (fun c18 => ?_) (fun c18 => ?_)
    · refine je_ps jb_X5_has 1 (pc' := 26) (ls' := [_, _]) (st' := [_]) rfl ?_
      exact je_ret jb_X5_has rfl (by rfl) ⟨by (first | rfl | (refine jv_t ?_; simp only [decide_eq_true_eq]; omega) | (refine jv_f ?_; simp only [decide_eq_false_iff_not]; omega) | (refine jv_I ?_; omega)), by (first | rfl | (refine jv_t ?_; simp only [decide_eq_true_eq]; omega) | (refine jv_f ?_; simp only [decide_eq_false_iff_not]; omega) | (refine jv_I ?_; omega))⟩
    · refine je_ps jb_X5_has 2 (pc' := 26) (ls' := [_, _]) (st' := [_]) rfl ?_
      exact je_ret jb_X5_has rfl (by rfl) ⟨by (first | rfl | (refine jv_t ?_; simp only [decide_eq_true_eq]; omega) | (refine jv_f ?_; simp only [decide_eq_false_iff_not]; omega) | (refine jv_I ?_; omega)), by (first | rfl | (refine jv_t ?_; simp only [decide_eq_true_eq]; omega) | (refine jv_f ?_; simp only [decide_eq_false_iff_not]; omega) | (refine jv_I ?_; omega))⟩
theorem c_X5_placeOf {i : Nat} (hi : i < 13) {s n k c : Int} (g : jStr m i s n k) (hc : -2147483648 ≤ c ∧ c ≤ 2147483647) : jq sc 3 jm_X5_placeOf [.ref (jws i), .int (jI c)] (jh m r T) (jP (some (.int (jI (fPl s n c)))) (jh m r T)) := by
  have gp := fPl_c s n c
  refine je_in jb_X5_placeOf rfl (ls := [_, _]) rfl ?_
  refine je_ps jb_X5_placeOf 2 (pc' := 2) (ls' := [_, _]) (st' := [_, _]) rfl ?_
  refine je_cvP' jb_X5_placeOf rfl (pc' := 5) rfl (jh_str hi) (by rfl) (by first | decide | exact Nat.ble_eq_true_of_le (by omega)) (c_X5_has hi g (by omega)) (st' := [_]) rfl ?_
  refine je_ifeqb jb_X5_placeOf rfl (t := 17) rfl (pc' := 8) rfl (fun c5 => ?_) (fun c5 => ?_)
  · refine je_ps jb_X5_placeOf 1 (pc' := 18) (ls' := [_, _]) (st' := [_]) rfl ?_
    exact je_ret jb_X5_placeOf rfl (by rfl) ⟨jv_I (by simp_all), by (first | rfl | (refine jv_t ?_; simp only [decide_eq_true_eq]; omega) | (refine jv_f ?_; simp only [decide_eq_false_iff_not]; omega) | (refine jv_I ?_; omega))⟩
  · refine je_ps jb_X5_placeOf 2 (pc' := 10) (ls' := [_, _]) (st' := [_, _]) rfl ?_
    refine je_cvP' jb_X5_placeOf rfl (pc' := 13) rfl (jh_str hi) (by rfl) (by first | decide | exact Nat.ble_eq_true_of_le (by omega)) (c_X5_least hi g) (st' := [_, _]) rfl ?_
    refine je_isub jb_X5_placeOf rfl (pc' := 14) rfl ?_
    refine je_ps jb_X5_placeOf 1 (pc' := 18) (ls' := [_, _]) (st' := [_]) rfl ?_
    exact je_ret jb_X5_placeOf rfl (by rfl) ⟨jv_I (by simp_all), by (first | rfl | (refine jv_t ?_; simp only [decide_eq_true_eq]; omega) | (refine jv_f ?_; simp only [decide_eq_false_iff_not]; omega) | (refine jv_I ?_; omega))⟩
theorem c_X5_reach {i : Nat} (hi : i < 13) {s n k c b : Int} (g : jStr m i s n k) (hc : -1000000 ≤ c ∧ c ≤ 1000000) (hb : -1000000 ≤ b ∧ b ≤ 1000000) : jq sc 2 jm_X5_reach [.ref (jws i), .int (jI c), .int (jI b)] (jh m r T) (jP (some (.int (jI (fRe s n c b)))) (jh m r T)) := by
  have g' := g
  obtain ⟨⟨e1, e2, e3⟩, gs, gk⟩ := g'
  refine je_in jb_X5_reach rfl (ls := [_, _, _]) rfl ?_
  refine je_ps jb_X5_reach 1 (pc' := 1) (ls' := [_, _, _]) (st' := [_]) rfl ?_
  refine je_get jb_X5_reach rfl (pc' := 4) rfl (jh_str hi) (by rfl) (by rfl) ?_
  refine je_ps jb_X5_reach 1 (pc' := 5) (ls' := [_, _, _]) (st' := [_, _]) rfl ?_
  refine je_icmpne jb_X5_reach rfl (t := 21) rfl (pc' := 8) rfl (by first | omega | exact (hM _ _).1 | exact (hM _ _).2) (by first | omega | exact (hM _ _).1 | exact (hM _ _).2) (by first | omega | exact (hM _ _).1 | exact (hM _ _).2) (by first | omega | exact (hM _ _).1 | exact (hM _ _).2) (fun c5 => ?_) (fun c5 => ?_)
  · refine je_ps jb_X5_reach 2 (pc' := 23) (ls' := [_, _, _]) (st' := [_, _]) rfl ?_
    refine je_iadd jb_X5_reach rfl (pc' := 24) rfl ?_
    exact je_ret jb_X5_reach rfl (by rfl) ⟨jv_I (by unfold fRe; simp_all), by (first | rfl | (refine jv_t ?_; simp only [decide_eq_true_eq]; omega) | (refine jv_f ?_; simp only [decide_eq_false_iff_not]; omega) | (refine jv_I ?_; omega))⟩
  · refine je_ps jb_X5_reach 2 (pc' := 10) (ls' := [_, _, _]) (st' := [_, _]) rfl ?_
    refine je_iadd jb_X5_reach rfl (pc' := 11) rfl ?_
    refine je_ps jb_X5_reach 1 (pc' := 12) (ls' := [_, _, _]) (st' := [_, _]) rfl ?_
    refine je_get jb_X5_reach rfl (pc' := 15) rfl (jh_str hi) (by rfl) (by rfl) ?_
    refine je_csP' jb_X5_reach rfl (pc' := 18) rfl (by rfl) (by first | decide | exact Nat.ble_eq_true_of_le (by omega)) (c_X11_around (by omega) (by omega) (by omega) (by omega)) (st' := [_]) rfl ?_
    refine je_ps jb_X5_reach 1 (pc' := 24) (ls' := [_, _, _]) (st' := [_]) rfl ?_
    exact je_ret jb_X5_reach rfl (by rfl) ⟨jv_I (by unfold fRe; simp_all), by (first | rfl | (refine jv_t ?_; simp only [decide_eq_true_eq]; omega) | (refine jv_f ?_; simp only [decide_eq_false_iff_not]; omega) | (refine jv_I ?_; omega))⟩
end C12
