/-! THE CLASS'S WALK, first half -/
section C13
variable {sc : Nat × (Nat → Int32)} {m : Nat → Int → Int} {r : Nat → Nat → Value} {T : jx_H} {σ : jx_H}
theorem jq_eq {d M : Nat} {av : List Value} {v v' : Option Value} {σ1 σ2 : jx_H} (h : jq sc d M av σ (jP v σ1)) (e1 : v = v') (e2 : σ1 = σ2) : jq sc d M av σ (jP v' σ2) := by
  subst e1; subst e2; exact h
/-- a walk's lamps: every one shows a shade, all behind the street's none -/
def fL (n k : Int) (L : Int → Int) : Prop := (∀ p, 0 ≤ L p ∧ L p < k) ∧ ∀ p, n ≤ p → L p = 0
def fAt (L : Int → Int) (p : Int) : Int := if 0 ≤ p ∧ p < 25 then L p else 0
def fSh (s n : Int) (L : Int → Int) (c : Int) : Int := fAt L (fPl s n c)
def fTu (s n k : Int) (L : Int → Int) (c b : Int) : Int → Int := if fHas s n c = true then ju L (fPl s n c) ((L (fPl s n c) + b) % k) else L
/-- the first so many places told anew -/
def jF (f g : Int → Int) (n : Int) : Int → Int := fun p => if 0 ≤ p ∧ p < n then g p else f p
theorem jF_0 (f g : Int → Int) : jF f g 0 = f := by
  funext p
  unfold jF
  rw [if_neg (by omega)]
theorem jF_s (f g : Int → Int) (n : Int) (h : 0 ≤ n) : ju (jF f g n) n (g n) = jF f g (n + 1) := by
  funext p
  unfold jF ju
  by_cases h1 : p = n
  · subst h1
    rw [if_pos rfl, if_pos (by omega)]
  · rw [if_neg h1]
    by_cases h2 : 0 ≤ p ∧ p < n
    · show (if 0 ≤ p ∧ p < n then g p else f p) = _
      rw [if_pos h2, if_pos (by omega)]
    · show (if 0 ≤ p ∧ p < n then g p else f p) = _
      rw [if_neg h2, if_neg (by omega)]
theorem jw_ne {i j : Nat} (hi : i < 13) (hj : j < 13) : jwl i ≠ jws j ∧ jwl i ≠ jwa j ∧ jwa i ≠ jws j := by
  have : ∀ i ∈ List.range 13, ∀ j ∈ List.range 13, jwl i ≠ jws j ∧ jwl i ≠ jwa j ∧ jwa i ≠ jws j := by decide
  exact this i (List.mem_range.mpr hi) j (List.mem_range.mpr hj)
theorem jw_inj {i j : Nat} (hi : i < 13) (hj : j < 13) (h : i ≠ j) : jwl i ≠ jwl j ∧ jwa i ≠ jwa j := by
  have : ∀ i ∈ List.range 13, ∀ j ∈ List.range 13, i ≠ j → jwl i ≠ jwl j ∧ jwa i ≠ jwa j := by decide
  exact this i (List.mem_range.mpr hi) j (List.mem_range.mpr hj) h
theorem jStr.l {i j : Nat} {s n k : Int} (g : jStr m i s n k) (hi : i < 13) (hj : j < 13) (f : Int → Int) : jStr (jU m (jwl j) f) i s n k := by
  unfold jStr at *
  rwa [jU_ne (jw_ne hj hi).1.symm]
theorem jStr.e {i j : Nat} {s n k : Int} (g : jStr m i s n k) (hi : i < 13) (hj : j < 13) (f : Int → Int) : jStr (jU m (jwa j) f) i s n k := by
  unfold jStr at *
  rwa [jU_ne (jw_ne hj hi).2.2.symm]
theorem c_X8_showsAtPlace {i : Nat} (hi : i < 13) {p : Int} (hp : -2147483648 ≤ p ∧ p ≤ 2147483647) : jq sc 1 jm_X8_showsAtPlace [.ref (jwa i), .int (jI p)] (jh m r T) (jP (some (.int (jI (fAt (m (jwl i)) p)))) (jh m r T)) := by
  refine je_in jb_X8_showsAtPlace rfl (ls := [_, _]) rfl ?_
  refine je_ps jb_X8_showsAtPlace 1 (pc' := 1) (ls' := [_, _]) (st' := [_]) rfl ?_
  refine je_iflt jb_X8_showsAtPlace rfl (t := 22) rfl (pc' := 4) rfl (by first | omega | exact (hM _ _).1 | exact (hM _ _).2) (by first | omega | exact (hM _ _).1 | exact (hM _ _).2) (fun c1 => ?_) (fun c1 => ?_)
  · refine je_ps jb_X8_showsAtPlace 1 (pc' := 23) (ls' := [_, _]) (st' := [_]) rfl ?_
    exact je_ret jb_X8_showsAtPlace rfl (by rfl) ⟨jv_I (by unfold fAt; first | rw [if_pos (by omega)] | rw [if_neg (by omega)]), rfl⟩
  · refine je_ps jb_X8_showsAtPlace 2 (pc' := 6) (ls' := [_, _]) (st' := [_, _]) rfl ?_
    refine je_get jb_X8_showsAtPlace rfl (pc' := 9) rfl (jh_walk hi) (by rfl) (by rfl) ?_
    refine je_alen jb_X8_showsAtPlace rfl (pc' := 10) rfl (jh_lamps hi) ?_
    refine je_icmpge jb_X8_showsAtPlace rfl (t := 22) rfl (pc' := 13) rfl (by first | omega | exact (hM _ _).1 | exact (hM _ _).2) (by first | omega | exact (hM _ _).1 | exact (hM _ _).2) (by first | omega | exact (hM _ _).1 | exact (hM _ _).2) (by first | omega | exact (hM _ _).1 | exact (hM _ _).2) (fun c10 => ?_) (fun c10 => ?_)
    · refine je_ps jb_X8_showsAtPlace 1 (pc' := 23) (ls' := [_, _]) (st' := [_]) rfl ?_
      exact je_ret jb_X8_showsAtPlace rfl (by rfl) ⟨jv_I (by unfold fAt; first | rw [if_pos (by omega)] | rw [if_neg (by omega)]), rfl⟩
    · refine je_ps jb_X8_showsAtPlace 1 (pc' := 14) (ls' := [_, _]) (st' := [_]) rfl ?_
      refine je_get jb_X8_showsAtPlace rfl (pc' := 17) rfl (jh_walk hi) (by rfl) (by rfl) ?_
      refine je_ps jb_X8_showsAtPlace 1 (pc' := 18) (ls' := [_, _]) (st' := [_, _]) rfl ?_
      refine je_iald jb_X8_showsAtPlace rfl (pc' := 19) rfl (jh_lamps hi) (by first | omega | exact (hM _ _).1 | exact (hM _ _).2) (by first | omega | exact (hM _ _).1 | exact (hM _ _).2) (by first | omega | exact (hM _ _).1 | exact (hM _ _).2) ?_
      refine je_ps jb_X8_showsAtPlace 1 (pc' := 23) (ls' := [_, _]) (st' := [_]) rfl ?_
      exact je_ret jb_X8_showsAtPlace rfl (by rfl) ⟨jv_I (by unfold fAt; first | rw [if_pos (by omega)] | rw [if_neg (by omega)]), rfl⟩
theorem c_X8_shows {i : Nat} (hi : i < 13) {s n k c : Int} (g : jStr m i s n k) (hc : -2147483648 ≤ c ∧ c ≤ 2147483647) : jq sc 4 jm_X8_shows [.ref (jwa i), .int (jI c)] (jh m r T) (jP (some (.int (jI (fSh s n (m (jwl i)) c)))) (jh m r T)) := by
  have gp := fPl_c s n c
  have gs := g.2
  have gl := fLo_c s
  unfold fS at gs
  have gh : -1 ≤ fPl s n c ∧ fPl s n c ≤ 25 := by
    rcases gp with ⟨h1, h2⟩ | ⟨h1, h2⟩
    · have := fHas_t h1
      omega
    · omega
  refine je_in jb_X8_shows rfl (ls := [_, _]) rfl ?_
  refine je_ps jb_X8_shows 2 (pc' := 2) (ls' := [_, _]) (st' := [_, _]) rfl ?_
  refine je_get jb_X8_shows rfl (pc' := 5) rfl (jh_walk hi) (by rfl) (by rfl) ?_
  refine je_ps jb_X8_shows 1 (pc' := 6) (ls' := [_, _]) (st' := [_, _, _]) rfl ?_
  refine je_cvP' jb_X8_shows rfl (pc' := 9) rfl (jh_str hi) (by rfl) (by first | decide | exact Nat.ble_eq_true_of_le (by omega)) (c_X5_placeOf hi g (by omega)) (st' := [_, _]) rfl ?_
  refine je_cvP' jb_X8_shows rfl (pc' := 12) rfl (jh_walk hi) (by rfl) (by first | decide | exact Nat.ble_eq_true_of_le (by omega)) (c_X8_showsAtPlace hi (by omega)) (st' := [_]) rfl ?_
  exact je_ret jb_X8_shows rfl (by rfl) ⟨by (first | rfl | (refine jv_t ?_; simp only [decide_eq_true_eq]; omega) | (refine jv_f ?_; simp only [decide_eq_false_iff_not]; omega) | (refine jv_I ?_; omega)), by (first | rfl | (refine jv_t ?_; simp only [decide_eq_true_eq]; omega) | (refine jv_f ?_; simp only [decide_eq_false_iff_not]; omega) | (refine jv_I ?_; omega))⟩
theorem c_X8_turn {i : Nat} (hi : i < 13) {s n k c b : Int} (g : jStr m i s n k) (hL : fL n k (m (jwl i))) (hc : -2147483648 ≤ c ∧ c ≤ 2147483647) (hb : -1000000 ≤ b ∧ b ≤ 1000000) : jq sc 4 jm_X8_turn [.ref (jwa i), .int (jI c), .int (jI b)] (jh m r T) (jP none (jh (jU m (jwl i) (fTu s n k (m (jwl i)) c b)) r T)) := by
  have gp := fPl_c s n c
  have g' := g
  obtain ⟨⟨e1, e2, e3⟩, gs⟩ := g'
  have gl := fLo_c s
  unfold fS at gs
  have hq := hL.1 (fPl s n c)
  have gh : (fHas s n c = true ∧ 0 ≤ fPl s n c ∧ fPl s n c < 25) ∨ (fHas s n c = false ∧ fPl s n c = -1) := by
    rcases gp with ⟨h1, h2⟩ | ⟨h1, h2⟩
    · have := fHas_t h1
      exact Or.inl ⟨h1, by omega⟩
    · exact Or.inr ⟨h1, h2⟩
  refine je_in jb_X8_turn rfl (ls := [_, _, _, _]) rfl ?_
  refine je_ps jb_X8_turn 1 (pc' := 1) (ls' := [_, _, _, _]) (st' := [_]) rfl ?_
  refine je_get jb_X8_turn rfl (pc' := 4) rfl (jh_walk hi) (by rfl) (by rfl) ?_
  refine je_ps jb_X8_turn 1 (pc' := 5) (ls' := [_, _, _, _]) (st' := [_, _]) rfl ?_
  refine je_cvP' jb_X8_turn rfl (pc' := 8) rfl (jh_str hi) (by rfl) (by first | decide | exact Nat.ble_eq_true_of_le (by omega)) (c_X5_placeOf hi g (by omega)) (st' := [_]) rfl ?_
  refine je_ps jb_X8_turn 2 (pc' := 10) (ls' := [_, _, _, _]) (st' := [_]) rfl ?_
  refine je_iflt jb_X8_turn rfl (t := 46) rfl (pc' := 13) rfl (by first | omega | exact (hM _ _).1 | exact (hM _ _).2) (by first | omega | exact (hM _ _).1 | exact (hM _ _).2) (fun c10 => ?_) (fun c10 => ?_)
  · exact je_ret jb_X8_turn rfl (by rfl) ⟨rfl, jh_eq (by rcases gh with ⟨q1, q2⟩ | ⟨q1, q2⟩ <;> unfold fTu <;> first | (exfalso; omega) | (rw [if_pos q1, e3]; done) | (rw [q1, if_neg (by decide), jU_self]; done))⟩
  · refine je_ps jb_X8_turn 2 (pc' := 15) (ls' := [_, _, _, _]) (st' := [_, _]) rfl ?_
    refine je_get jb_X8_turn rfl (pc' := 18) rfl (jh_walk hi) (by rfl) (by rfl) ?_
    refine je_alen jb_X8_turn rfl (pc' := 19) rfl (jh_lamps hi) ?_
    refine je_icmpge jb_X8_turn rfl (t := 46) rfl (pc' := 22) rfl (by first | omega | exact (hM _ _).1 | exact (hM _ _).2) (by first | omega | exact (hM _ _).1 | exact (hM _ _).2) (by first | omega | exact (hM _ _).1 | exact (hM _ _).2) (by first | omega | exact (hM _ _).1 | exact (hM _ _).2) (fun c19 => ?_) (fun c19 => ?_)
    · exact je_ret jb_X8_turn rfl (by rfl) ⟨rfl, jh_eq (by rcases gh with ⟨q1, q2⟩ | ⟨q1, q2⟩ <;> unfold fTu <;> first | (exfalso; omega) | (rw [if_pos q1, e3]; done) | (rw [q1, if_neg (by decide), jU_self]; done))⟩
    · refine je_ps jb_X8_turn 1 (pc' := 23) (ls' := [_, _, _, _]) (st' := [_]) rfl ?_
      refine je_get jb_X8_turn rfl (pc' := 26) rfl (jh_walk hi) (by rfl) (by rfl) ?_
      refine je_ps jb_X8_turn 2 (pc' := 28) (ls' := [_, _, _, _]) (st' := [_, _, _]) rfl ?_
      refine je_get jb_X8_turn rfl (pc' := 31) rfl (jh_walk hi) (by rfl) (by rfl) ?_
      refine je_ps jb_X8_turn 1 (pc' := 32) (ls' := [_, _, _, _]) (st' := [_, _, _, _]) rfl ?_
      refine je_iald jb_X8_turn rfl (pc' := 33) rfl (jh_lamps hi) (by first | omega | exact (hM _ _).1 | exact (hM _ _).2) (by first | omega | exact (hM _ _).1 | exact (hM _ _).2) (by first | omega | exact (hM _ _).1 | exact (hM _ _).2) ?_
      refine je_ps jb_X8_turn 1 (pc' := 34) (ls' := [_, _, _, _]) (st' := [_, _, _, _]) rfl ?_
      refine je_iadd jb_X8_turn rfl (pc' := 35) rfl ?_
      refine je_ps jb_X8_turn 1 (pc' := 36) (ls' := [_, _, _, _]) (st' := [_, _, _, _]) rfl ?_
      refine je_get jb_X8_turn rfl (pc' := 39) rfl (jh_walk hi) (by rfl) (by rfl) ?_
      refine je_get jb_X8_turn rfl (pc' := 42) rfl (jh_str hi) (by rfl) (by rfl) ?_
      refine je_csP' jb_X8_turn rfl (pc' := 45) rfl (by rfl) (by first | decide | exact Nat.ble_eq_true_of_le (by omega)) (c_X11_around (by omega) (by omega) (by omega) (by omega)) (st' := [_, _, _]) rfl ?_
      refine je_iastI jb_X8_turn rfl (pc' := 46) rfl (jwl_lt hi) (fun _ => jc_lamps hi _ _) (by first | omega | exact (hM _ _).1 | exact (hM _ _).2) (by first | omega | exact (hM _ _).1 | exact (hM _ _).2) (by first | omega | exact (hM _ _).1 | exact (hM _ _).2) ?_
      exact je_ret jb_X8_turn rfl (by rfl) ⟨rfl, jh_eq (by rcases gh with ⟨q1, q2⟩ | ⟨q1, q2⟩ <;> unfold fTu <;> first | (exfalso; omega) | (rw [if_pos q1, e3]; done) | (rw [q1, if_neg (by decide), jU_self]; done))⟩
theorem c_X8_clear {i : Nat} (hi : i < 13) : jq sc 1 jm_X8_clear [.ref (jwa i)] (jh m r T) (jP none (jh (jU (jU m (jwl i) (jF (m (jwl i)) (fun _ => 0) 25)) (jwa i) (ju (m (jwa i)) 2 0)) r T)) := by
  have hne := (jw_ne hi hi).2.1
  refine je_in jb_X8_clear rfl (ls := [_, _]) rfl ?_
  refine je_ps jb_X8_clear 2 (pc' := 2) (ls' := [_, _]) (st' := []) rfl ?_
  refine je_loop (fun (v : Nat) ls σ' => ls = [.ref (jwa i), .int (jI v)] ∧ σ' = jh (jU m (jwl i) (jF (m (jwl i)) (fun _ => 0) v)) r T) (25) ⟨rfl, by rw [show ((0 : Nat) : Int) = 0 from rfl, jF_0, jU_self]⟩ (fun v hv ls σ' gv kv => ?_) (fun ls σ' gv => ?_)
  · obtain ⟨rfl, rfl⟩ := gv
    refine je_ps jb_X8_clear 2 (pc' := 4) (ls' := [_, _]) (st' := [_, _]) rfl ?_
    refine je_get jb_X8_clear rfl (pc' := 7) rfl (jh_walk hi) (by rfl) (by rfl) ?_
    refine je_alen jb_X8_clear rfl (pc' := 8) rfl (jh_lamps hi) ?_
    refine je_icmpge jb_X8_clear rfl (t := 24) rfl (pc' := 11) rfl (by first | omega | exact (hM _ _).1 | exact (hM _ _).2) (by first | omega | exact (hM _ _).1 | exact (hM _ _).2) (by first | omega | exact (hM _ _).1 | exact (hM _ _).2) (by first | omega | exact (hM _ _).1 | exact (hM _ _).2) (fun c8 => ?_) (fun c8 => ?_)
    · first | (exfalso; omega) | (cases c8; done) | (exfalso; simp_all; done)
    · refine je_ps jb_X8_clear 1 (pc' := 12) (ls' := [_, _]) (st' := [_]) rfl ?_
      refine je_get jb_X8_clear rfl (pc' := 15) rfl (jh_walk hi) (by rfl) (by rfl) ?_
      refine je_ps jb_X8_clear 2 (pc' := 17) (ls' := [_, _]) (st' := [_, _, _]) rfl ?_
      refine je_iastI jb_X8_clear rfl (pc' := 18) rfl (jwl_lt hi) (fun _ => jc_lamps hi _ _) (by first | omega | exact (hM _ _).1 | exact (hM _ _).2) (by first | omega | exact (hM _ _).1 | exact (hM _ _).2) (by first | omega | exact (hM _ _).1 | exact (hM _ _).2) ?_
      refine je_iinc jb_X8_clear rfl (pc' := 21) rfl rfl (ls' := [_, _]) rfl ?_
      refine je_ps jb_X8_clear 1 (pc' := 2) (ls' := [_, _]) (st' := []) rfl ?_
      exact kv _ _ ⟨rfl, by rw [jU_same, jU_jU, jF_s _ _ _ (by omega)]; rfl⟩
  · obtain ⟨rfl, rfl⟩ := gv
    refine je_ps jb_X8_clear 2 (pc' := 4) (ls' := [_, _]) (st' := [_, _]) rfl ?_
    refine je_get jb_X8_clear rfl (pc' := 7) rfl (jh_walk hi) (by rfl) (by rfl) ?_
    refine je_alen jb_X8_clear rfl (pc' := 8) rfl (jh_lamps hi) ?_
    refine je_icmpge jb_X8_clear rfl (t := 24) rfl (pc' := 11) rfl (by first | omega | exact (hM _ _).1 | exact (hM _ _).2) (by first | omega | exact (hM _ _).1 | exact (hM _ _).2) (by first | omega | exact (hM _ _).1 | exact (hM _ _).2) (by first | omega | exact (hM _ _).1 | exact (hM _ _).2) (fun c8 => ?_) (fun c8 => ?_)
    · refine je_ps jb_X8_clear 2 (pc' := 26) (ls' := [_, _]) (st' := [_, _]) rfl ?_
      refine je_pute jb_X8_clear rfl (pc' := 29) rfl hi (by rfl) (by rfl) ?_
      exact je_ret jb_X8_clear rfl (by rfl) ⟨rfl, by rw [jU_ne hne.symm]; rfl⟩
    · first | (exfalso; omega) | (cases c8; done) | (exfalso; simp_all; done)
end C13
