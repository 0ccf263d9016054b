/-! THE WRITER, whole -/
section C26
variable {sc : Nat × (Nat → Int32)} {m : Nat → Int → Int} {r : Nat → Nat → Value} {T : jx_H} {σ : jx_H}
theorem fLow_0 {s : Int} {L : Int → Int} : ∀ v : Nat, v ≤ 25 → -12 ≤ fLow s L 0 v ∧ fLow s L 0 v ≤ 0
  | 0, _ => by simp [fLow]
  | v + 1, hv => by
    have q := fLow_0 (s := s) (L := L) v (by omega)
    have gl := fLo_c s
    unfold fLow
    split <;> omega
theorem fHigh_0 {s : Int} {L : Int → Int} : ∀ v : Nat, v ≤ 25 → 0 ≤ fHigh s L 0 v ∧ fHigh s L 0 v ≤ 24
  | 0, _ => by simp [fHigh]
  | v + 1, hv => by
    have q := fHigh_0 (s := s) (L := L) v (by omega)
    have gl := fLo_c s
    unfold fHigh
    split <;> omega
theorem wGo_ok {s n k goal : Int} {L : Int → Int} {w : ((Int → Int) × Int) × Int × Int × Int} (h : wOk w) (hg : -24 ≤ goal ∧ goal ≤ 24) : wOk (wGo s n k L goal w) := by
  have ga := jabs_c (goal - w.2.1)
  have w2 := h.2.1
  unfold wGo
  by_cases hh : w.2.1 < goal
  · rw [if_pos hh]
    exact (wIt_i h (Or.inl rfl) _ (by omega)).2
  · rw [if_neg hh]
    exact (wIt_i h (Or.inr rfl) _ (by omega)).2
def w1 (s n k : Int) (L : Int → Int) (q : (Int → Int) × Int) : ((Int → Int) × Int) × Int × Int × Int := (fRAl 110 (q.1, 0) (wLamp s n k L 0), 0, min 0 0, max 0 0)
theorem w1_ok {s n k : Int} {L : Int → Int} {q : (Int → Int) × Int} : wOk (w1 s n k L q) :=
  ⟨fRAl_i (N := 110) (wLamp s n k L 0) (q := (q.1, 0)) ⟨Int.le_refl 0, by show (0 : Int) ≤ ((110 : Nat) : Int); decide⟩, by show -24 ≤ (0 : Int) ∧ (0 : Int) ≤ 24; decide, by show -24 ≤ min (0 : Int) 0 ∧ min (0 : Int) 0 ≤ 24; decide, by show -24 ≤ max (0 : Int) 0 ∧ max (0 : Int) 0 ≤ 24; decide⟩
def wAll3 (s n k : Int) (L : Int → Int) (e : Int) (q : (Int → Int) × Int) (first second : Int) : ((Int → Int) × Int) × Int × Int × Int := wGo s n k L e (wGo s n k L (if second = 0 then first else second) (wGo s n k L first (w1 s n k L q)))
def wAll (s n k : Int) (L : Int → Int) (e : Int) (q : (Int → Int) × Int) : ((Int → Int) × Int) × Int × Int × Int :=
  if fTrip (fHigh s L 0 25) (fLow s L 0 25) e < fTrip (fLow s L 0 25) (fHigh s L 0 25) e then wAll3 s n k L e q (fHigh s L 0 25) (fLow s L 0 25) else wAll3 s n k L e q (fLow s L 0 25) (fHigh s L 0 25)
theorem k_writeWhole {i : Nat} (hi : i < 13) {s n k e : Int} {L : Int → Int} {q : (Int → Int) × Int} (g : jWk m i s n k L e) (gq : jQ37 m q) : jq sc 7 jm_X10_writeWhole [.ref (62 + T.length)] (jh m r (T ++ [wCell i 0 0 0])) (jP none (wH m r T i (wAll s n k L e q))) := by
  have g0 := g
  have gc := fC_i g.1.2 g.2.2.2.2
  have gl := fLow_0 (s := s) (L := L) 25 (by omega)
  have gh := fHigh_0 (s := s) (L := L) 25 (by omega)
  have t1 := fTrip_i (a := fHigh s L 0 25) (b := fLow s L 0 25) (g := e) (by omega) (by omega) (by omega)
  have t2 := fTrip_i (a := fLow s L 0 25) (b := fHigh s L 0 25) (g := e) (by omega) (by omega) (by omega)
  have o1 := w1_ok (s := s) (n := n) (k := k) (L := L) (q := q)
  refine je_in jb_X10_writeWhole rfl (ls := [_, _, _, _, _, _]) rfl ?_
  unfold wCell
  refine je_ps jb_X10_writeWhole 1 (pc' := 1) (ls' := [_, _, _, _, _, _]) (st' := [_]) rfl ?_
  refine je_get jb_X10_writeWhole rfl (pc' := 4) rfl (jT_get _ _ _ _) (by rfl) (by rfl) ?_
  refine je_cvP' jb_X10_writeWhole rfl (pc' := 7) rfl ((jh_row37 gq).1) (by rfl) (by first | decide | exact Nat.ble_eq_true_of_le (by omega)) (k37_clear gq) (st' := []) rfl ?_
  have g := g0.R37 hi (q.1, 0)
  have gq := jQ37_R m (q := (q.1, 0)) (Int.le_refl 0) (by show (0 : Int) ≤ 110; decide)
  refine je_ps jb_X10_writeWhole 1 (pc' := 8) (ls' := [_, _, _, _, _, _]) (st' := [_]) rfl ?_
  refine je_get jb_X10_writeWhole rfl (pc' := 11) rfl (jT_get _ _ _ _) (by rfl) (by rfl) ?_
  refine je_ps jb_X10_writeWhole 1 (pc' := 12) (ls' := [_, _, _, _, _, _]) (st' := [_, _]) rfl ?_
  refine je_cvP' jb_X10_writeWhole rfl (pc' := 15) rfl (by first | exact jh_V hi g | exact jh_V hi (g0.R37 hi _) | exact jh_walk hi) (by rfl) (by first | decide | exact Nat.ble_eq_true_of_le (by omega)) (k_lowFrom hi g (by omega)) (st' := [_]) rfl ?_
  refine je_ps jb_X10_writeWhole 2 (pc' := 17) (ls' := [_, _, _, _, _, _]) (st' := [_]) rfl ?_
  refine je_get jb_X10_writeWhole rfl (pc' := 20) rfl (jT_get _ _ _ _) (by rfl) (by rfl) ?_
  refine je_ps jb_X10_writeWhole 1 (pc' := 21) (ls' := [_, _, _, _, _, _]) (st' := [_, _]) rfl ?_
  refine je_cvP' jb_X10_writeWhole rfl (pc' := 24) rfl (by first | exact jh_V hi g | exact jh_V hi (g0.R37 hi _) | exact jh_walk hi) (by rfl) (by first | decide | exact Nat.ble_eq_true_of_le (by omega)) (k_highFrom hi g (by omega)) (st' := [_]) rfl ?_
  refine je_ps jb_X10_writeWhole 4 (pc' := 28) (ls' := [_, _, _, _, _, _]) (st' := [_, _, _]) rfl ?_
  refine je_get jb_X10_writeWhole rfl (pc' := 31) rfl (jT_get _ _ _ _) (by rfl) (by rfl) ?_
  refine je_get jb_X10_writeWhole rfl (pc' := 34) rfl (by first | exact jh_V hi g | exact jh_V hi (g0.R37 hi _) | exact jh_walk hi) (by rfl) (by rfl) ?_
  refine je_csP' jb_X10_writeWhole rfl (pc' := 37) rfl (by rfl) (by first | decide | exact Nat.ble_eq_true_of_le (by omega)) (c_X11_trip (by omega) (by omega) (by omega)) (st' := [_]) rfl ?_
  refine je_ps jb_X10_writeWhole 3 (pc' := 40) (ls' := [_, _, _, _, _, _]) (st' := [_, _, _, _]) rfl ?_
  refine je_get jb_X10_writeWhole rfl (pc' := 43) rfl (jT_get _ _ _ _) (by rfl) (by rfl) ?_
  refine je_get jb_X10_writeWhole rfl (pc' := 46) rfl (by first | exact jh_V hi g | exact jh_V hi (g0.R37 hi _) | exact jh_walk hi) (by rfl) (by rfl) ?_
  refine je_csP' jb_X10_writeWhole rfl (pc' := 49) rfl (by rfl) (by first | decide | exact Nat.ble_eq_true_of_le (by omega)) (c_X11_trip (by omega) (by omega) (by omega)) (st' := [_, _]) rfl ?_
  refine je_icmpge jb_X10_writeWhole rfl (t := 56) rfl (pc' := 52) rfl (by first | omega | exact (hM _ _).1 | exact (hM _ _).2) (by first | omega | exact (hM _ _).1 | exact (hM _ _).2) (by first | omega | exact (hM _ _).1 | exact (hM _ _).2) (by first | omega | exact (hM _ _).1 | exact (hM _ _).2) (fun c49 => ?_) (fun c49 => ?_)
  · refine je_ps jb_X10_writeWhole 3 (pc' := 59) (ls' := [_, _, _, _, _, _]) (st' := [_]) rfl ?_
    refine je_ifeq jb_X10_writeWhole rfl (t := 66) rfl (pc' := 62) rfl (by first | omega | exact (hM _ _).1 | exact (hM _ _).2) (by first | omega | exact (hM _ _).1 | exact (hM _ _).2) (fun c59 => ?_) (fun c59 => ?_)
    · refine je_ps jb_X10_writeWhole 3 (pc' := 70) (ls' := [_, _, _, _, _, _]) (st' := [_]) rfl ?_
      refine je_ifeq jb_X10_writeWhole rfl (t := 77) rfl (pc' := 73) rfl (by first | omega | exact (hM _ _).1 | exact (hM _ _).2) (by first | omega | exact (hM _ _).1 | exact (hM _ _).2) (fun c70 => ?_) (fun c70 => ?_)
      · refine je_ps jb_X10_writeWhole 3 (pc' := 81) (ls' := [_, _, _, _, _, _]) (st' := [_]) rfl ?_
        refine je_cvP' jb_X10_writeWhole rfl (pc' := 84) rfl (jT_get _ _ _ _) (by rfl) (by first | decide | exact Nat.ble_eq_true_of_le (by omega)) (k_turnLamp hi g gq (by omega) (by omega) (by omega)) (st' := []) rfl ?_
        rw [jR37_R]
        refine je_ps jb_X10_writeWhole 2 (pc' := 87) (ls' := [_, _, _, _, _, _]) (st' := [_, _]) rfl ?_
        refine je_cvP' jb_X10_writeWhole rfl (pc' := 90) rfl (jT_get _ _ _ _) (by rfl) (by first | decide | exact Nat.ble_eq_true_of_le (by omega)) (k_goTo (m := m) (w := w1 s n k L q) hi g0 o1 (by omega)) (st' := []) rfl ?_
        refine je_ps jb_X10_writeWhole 2 (pc' := 93) (ls' := [_, _, _, _, _, _]) (st' := [_, _]) rfl ?_
        refine je_ifne jb_X10_writeWhole rfl (t := 101) rfl (pc' := 96) rfl (by first | omega | exact (hM _ _).1 | exact (hM _ _).2) (by first | omega | exact (hM _ _).1 | exact (hM _ _).2) (fun c93 => ?_) (fun c93 => ?_)
        · refine je_ps jb_X10_writeWhole 1 (pc' := 103) (ls' := [_, _, _, _, _, _]) (st' := [_, _]) rfl ?_
          refine je_cvP' jb_X10_writeWhole rfl (pc' := 106) rfl (jT_get _ _ _ _) (by rfl) (by first | decide | exact Nat.ble_eq_true_of_le (by omega)) (k_goTo (m := m) hi g0 (wGo_ok o1 (by omega)) (by omega)) (st' := []) rfl ?_
          refine je_ps jb_X10_writeWhole 2 (pc' := 108) (ls' := [_, _, _, _, _, _]) (st' := [_, _]) rfl ?_
          refine je_get jb_X10_writeWhole rfl (pc' := 111) rfl (jT_get _ _ _ _) (by rfl) (by rfl) ?_
          refine je_get jb_X10_writeWhole rfl (pc' := 114) rfl (by first | exact jh_V hi g | exact jh_V hi (g0.R37 hi _) | exact jh_walk hi) (by rfl) (by rfl) ?_
          refine je_cvP' jb_X10_writeWhole rfl (pc' := 117) rfl (jT_get _ _ _ _) (by rfl) (by first | decide | exact Nat.ble_eq_true_of_le (by omega)) (k_goTo (m := m) hi g0 (wGo_ok (wGo_ok o1 (by omega)) (by omega)) (by omega)) (st' := []) rfl ?_
          exact je_ret jb_X10_writeWhole rfl (by rfl) ⟨rfl, by first | rw [wAll, if_pos (by omega), wAll3, if_pos (by omega)] | rw [wAll, if_pos (by omega), wAll3, if_neg (by omega)] | rw [wAll, if_neg (by omega), wAll3, if_pos (by omega)] | rw [wAll, if_neg (by omega), wAll3, if_neg (by omega)]⟩
        · refine je_ps jb_X10_writeWhole 2 (pc' := 103) (ls' := [_, _, _, _, _, _]) (st' := [_, _]) rfl ?_
          refine je_cvP' jb_X10_writeWhole rfl (pc' := 106) rfl (jT_get _ _ _ _) (by rfl) (by first | decide | exact Nat.ble_eq_true_of_le (by omega)) (k_goTo (m := m) hi g0 (wGo_ok o1 (by omega)) (by omega)) (st' := []) rfl ?_
          refine je_ps jb_X10_writeWhole 2 (pc' := 108) (ls' := [_, _, _, _, _, _]) (st' := [_, _]) rfl ?_
          refine je_get jb_X10_writeWhole rfl (pc' := 111) rfl (jT_get _ _ _ _) (by rfl) (by rfl) ?_
          refine je_get jb_X10_writeWhole rfl (pc' := 114) rfl (by first | exact jh_V hi g | exact jh_V hi (g0.R37 hi _) | exact jh_walk hi) (by rfl) (by rfl) ?_
          refine je_cvP' jb_X10_writeWhole rfl (pc' := 117) rfl (jT_get _ _ _ _) (by rfl) (by first | decide | exact Nat.ble_eq_true_of_le (by omega)) (k_goTo (m := m) hi g0 (wGo_ok (wGo_ok o1 (by omega)) (by omega)) (by omega)) (st' := []) rfl ?_
          exact je_ret jb_X10_writeWhole rfl (by rfl) ⟨rfl, by first | rw [wAll, if_pos (by omega), wAll3, if_pos (by omega)] | rw [wAll, if_pos (by omega), wAll3, if_neg (by omega)] | rw [wAll, if_neg (by omega), wAll3, if_pos (by omega)] | rw [wAll, if_neg (by omega), wAll3, if_neg (by omega)]⟩
      · first | (exfalso; omega) | (cases c70; done) | (exfalso; simp_all; done)
    · first | (exfalso; omega) | (cases c59; done) | (exfalso; simp_all; done)
  · refine je_ps jb_X10_writeWhole 4 (pc' := 59) (ls' := [_, _, _, _, _, _]) (st' := [_]) rfl ?_
    refine je_ifeq jb_X10_writeWhole rfl (t := 66) rfl (pc' := 62) rfl (by first | omega | exact (hM _ _).1 | exact (hM _ _).2) (by first | omega | exact (hM _ _).1 | exact (hM _ _).2) (fun c59 => ?_) (fun c59 => ?_)
    · first | (exfalso; omega) | (cases c59; done) | (exfalso; simp_all; done)
    · refine je_ps jb_X10_writeWhole 4 (pc' := 70) (ls' := [_, _, _, _, _, _]) (st' := [_]) rfl ?_
      refine je_ifeq jb_X10_writeWhole rfl (t := 77) rfl (pc' := 73) rfl (by first | omega | exact (hM _ _).1 | exact (hM _ _).2) (by first | omega | exact (hM _ _).1 | exact (hM _ _).2) (fun c70 => ?_) (fun c70 => ?_)
      · first | (exfalso; omega) | (cases c70; done) | (exfalso; simp_all; done)
      · refine je_ps jb_X10_writeWhole 4 (pc' := 81) (ls' := [_, _, _, _, _, _]) (st' := [_]) rfl ?_
        refine je_cvP' jb_X10_writeWhole rfl (pc' := 84) rfl (jT_get _ _ _ _) (by rfl) (by first | decide | exact Nat.ble_eq_true_of_le (by omega)) (k_turnLamp hi g gq (by omega) (by omega) (by omega)) (st' := []) rfl ?_
        rw [jR37_R]
        refine je_ps jb_X10_writeWhole 2 (pc' := 87) (ls' := [_, _, _, _, _, _]) (st' := [_, _]) rfl ?_
        refine je_cvP' jb_X10_writeWhole rfl (pc' := 90) rfl (jT_get _ _ _ _) (by rfl) (by first | decide | exact Nat.ble_eq_true_of_le (by omega)) (k_goTo (m := m) (w := w1 s n k L q) hi g0 o1 (by omega)) (st' := []) rfl ?_
        refine je_ps jb_X10_writeWhole 2 (pc' := 93) (ls' := [_, _, _, _, _, _]) (st' := [_, _]) rfl ?_
        refine je_ifne jb_X10_writeWhole rfl (t := 101) rfl (pc' := 96) rfl (by first | omega | exact (hM _ _).1 | exact (hM _ _).2) (by first | omega | exact (hM _ _).1 | exact (hM _ _).2) (fun c93 => ?_) (fun c93 => ?_)
        · refine je_ps jb_X10_writeWhole 1 (pc' := 103) (ls' := [_, _, _, _, _, _]) (st' := [_, _]) rfl ?_
          refine je_cvP' jb_X10_writeWhole rfl (pc' := 106) rfl (jT_get _ _ _ _) (by rfl) (by first | decide | exact Nat.ble_eq_true_of_le (by omega)) (k_goTo (m := m) hi g0 (wGo_ok o1 (by omega)) (by omega)) (st' := []) rfl ?_
          refine je_ps jb_X10_writeWhole 2 (pc' := 108) (ls' := [_, _, _, _, _, _]) (st' := [_, _]) rfl ?_
          refine je_get jb_X10_writeWhole rfl (pc' := 111) rfl (jT_get _ _ _ _) (by rfl) (by rfl) ?_
          refine je_get jb_X10_writeWhole rfl (pc' := 114) rfl (by first | exact jh_V hi g | exact jh_V hi (g0.R37 hi _) | exact jh_walk hi) (by rfl) (by rfl) ?_
          refine je_cvP' jb_X10_writeWhole rfl (pc' := 117) rfl (jT_get _ _ _ _) (by rfl) (by first | decide | exact Nat.ble_eq_true_of_le (by omega)) (k_goTo (m := m) hi g0 (wGo_ok (wGo_ok o1 (by omega)) (by omega)) (by omega)) (st' := []) rfl ?_
          exact je_ret jb_X10_writeWhole rfl (by rfl) ⟨rfl, by first | rw [wAll, if_pos (by omega), wAll3, if_pos (by omega)] | rw [wAll, if_pos (by omega), wAll3, if_neg (by omega)] | rw [wAll, if_neg (by omega), wAll3, if_pos (by omega)] | rw [wAll, if_neg (by omega), wAll3, if_neg (by omega)]⟩
        · refine je_ps jb_X10_writeWhole 2 (pc' := 103) (ls' := [_, _, _, _, _, _]) (st' := [_, _]) rfl ?_
          refine je_cvP' jb_X10_writeWhole rfl (pc' := 106) rfl (jT_get _ _ _ _) (by rfl) (by first | decide | exact Nat.ble_eq_true_of_le (by omega)) (k_goTo (m := m) hi g0 (wGo_ok o1 (by omega)) (by omega)) (st' := []) rfl ?_
          refine je_ps jb_X10_writeWhole 2 (pc' := 108) (ls' := [_, _, _, _, _, _]) (st' := [_, _]) rfl ?_
          refine je_get jb_X10_writeWhole rfl (pc' := 111) rfl (jT_get _ _ _ _) (by rfl) (by rfl) ?_
          refine je_get jb_X10_writeWhole rfl (pc' := 114) rfl (by first | exact jh_V hi g | exact jh_V hi (g0.R37 hi _) | exact jh_walk hi) (by rfl) (by rfl) ?_
          refine je_cvP' jb_X10_writeWhole rfl (pc' := 117) rfl (jT_get _ _ _ _) (by rfl) (by first | decide | exact Nat.ble_eq_true_of_le (by omega)) (k_goTo (m := m) hi g0 (wGo_ok (wGo_ok o1 (by omega)) (by omega)) (by omega)) (st' := []) rfl ?_
          exact je_ret jb_X10_writeWhole rfl (by rfl) ⟨rfl, by first | rw [wAll, if_pos (by omega), wAll3, if_pos (by omega)] | rw [wAll, if_pos (by omega), wAll3, if_neg (by omega)] | rw [wAll, if_neg (by omega), wAll3, if_pos (by omega)] | rw [wAll, if_neg (by omega), wAll3, if_neg (by omega)]⟩
end C26
