/-! THE CLASS'S WALK, sums, likes, orders, dead ends -/
section C17
variable {sc : Nat × (Nat → Int32)} {d M pc pc' : Nat} {ls st : List Value} {Q : Option Value → jx_H → Prop} {lst : List (Nat × Instr × Nat)} {own mx : Nat} {isi : Bool} {rt : Option FieldType} {m : Nat → Int → Int} {r : Nat → Nat → Value} {T : jx_H} {σ : jx_H}
def fX (a : Int) : Int := if a = 0 then 1 else if a = 1 then 0 else if a = 2 then 3 else 2
theorem fX_i (a : Int) : 0 ≤ fX a ∧ fX a ≤ 3 := by
  unfold fX
  split
  · omega
  · split
    · omega
    · split <;> omega
theorem je_ixor1 (hB : jx_B M lst own isi rt mx) {a : Int} {len : Nat} (hI : jx_lk lst pc = some (.ixor, len)) (hp : pc + 1 = pc') (h0 : 0 ≤ a) (h1 : a ≤ 3) (k : je sc d M pc' ls (.int (jI (fX a)) :: st) σ Q) : je sc d M pc ls (.int (jI 1) :: .int (jI a) :: st) σ Q := by
  subst hp
  refine je_p1 hB hI ?_ k
  rcases (by omega : a = 0 ∨ a = 1 ∨ a = 2 ∨ a = 3) with h | h | h | h <;> subst h <;> rfl
theorem fGo_no {s n k e c : Int} {L : Int → Int} (h : (fGo s n k L e c).1 = false) : fGo s n k L e c = (false, L, e) := by
  revert h
  unfold fGo
  split
  · intro h; cases h
  · split
    · intro h; cases h
    · split
      · split
        · intro h; cases h
        · intro _; rfl
      · split
        · split
          · intro h; cases h
          · intro _; rfl
        · intro _; rfl
theorem fTu_back {s n k e b : Int} {L : Int → Int} (h : fS s n k) (hL : fL n k L) (he : fC s n e) (hb : b = 1 ∨ b = -1) : fTu s n k (fTu s n k L e b) e (-b) = L := by
  have h1 : fHas s n e = true := decide_eq_true he
  unfold fTu
  rw [if_pos h1, if_pos h1, ju_same, ju_ju]
  have q := hL.1 (fPl s n e)
  have hk : 2 ≤ k ∧ k ≤ 5 := h.2
  have e1 : ((L (fPl s n e) + b) % k + -b) % k = L (fPl s n e) := by
    rcases (by omega : k = 2 ∨ k = 3 ∨ k = 4 ∨ k = 5) with h2 | h2 | h2 | h2 <;> subst h2 <;> rcases hb with hb | hb <;> subst hb <;> omega
  rw [e1, ju_self]
theorem fRe_back {s n k e b : Int} (h : fS s n k) (he : fC s n e) (hb : b = 1 ∨ b = -1) : fRe s n (fRe s n e b) (-b) = e := by
  have gl := fLo_c s
  unfold fC at he
  unfold fRe
  unfold fS at h
  by_cases h1 : s = 1
  · rw [if_pos h1, if_pos h1]
    rcases (by omega : n = 3 ∨ n = 4 ∨ n = 5 ∨ n = 6 ∨ n = 7 ∨ n = 8) with h2 | h2 | h2 | h2 | h2 | h2 <;> subst h2 <;> rcases hb with hb | hb <;> subst hb <;> omega
  · rw [if_neg h1, if_neg h1]
    omega
theorem fGo_back {s n k e c : Int} {L : Int → Int} (h : fS s n k) (hL : fL n k L) (he : fC s n e) (h1 : (fGo s n k L e c).1 = true) : fGo s n k (fGo s n k L e c).2.1 (fGo s n k L e c).2.2 (fX c) = (true, L, e) := by
  have hh : fHas s n e = true := decide_eq_true he
  by_cases c0 : c = 0
  · subst c0
    show fGo s n k (fTu s n k L e 1) e 1 = _
    show (true, fTu s n k (fTu s n k L e 1) e (-1), e) = _
    rw [fTu_back h hL he (Or.inl rfl)]
  by_cases c1 : c = 1
  · subst c1
    show (true, fTu s n k (fTu s n k L e (-1)) e (-(-1)), e) = _
    rw [fTu_back h hL he (Or.inr rfl)]
  by_cases c2 : c = 2
  · subst c2
    have e1 : fGo s n k L e 2 = if fHas s n (fRe s n e 1) = true then (true, L, fRe s n e 1) else (false, L, e) := rfl
    rw [e1] at h1 ⊢
    by_cases q : fHas s n (fRe s n e 1) = true
    · rw [if_pos q]
      show (if fHas s n (fRe s n (fRe s n e 1) (-1)) = true then (true, L, fRe s n (fRe s n e 1) (-1)) else (false, L, fRe s n e 1)) = _
      rw [fRe_back h he (Or.inl rfl), if_pos hh]
    · rw [if_neg q] at h1
      cases h1
  by_cases c3 : c = 3
  · subst c3
    have e1 : fGo s n k L e 3 = if fHas s n (fRe s n e (-1)) = true then (true, L, fRe s n e (-1)) else (false, L, e) := rfl
    rw [e1] at h1 ⊢
    by_cases q : fHas s n (fRe s n e (-1)) = true
    · rw [if_pos q]
      show (if fHas s n (fRe s n (fRe s n e (-1)) (-(-1))) = true then (true, L, fRe s n (fRe s n e (-1)) (-(-1))) else (false, L, fRe s n e (-1))) = _
      rw [fRe_back h he (Or.inr rfl), if_pos hh]
    · rw [if_neg q] at h1
      cases h1
  · exfalso
    unfold fGo at h1
    rw [if_neg c0, if_neg c1, if_neg c2, if_neg c3] at h1
    cases h1
theorem fAny_s (P : Nat → Bool) (v : Nat) : fAny P (v + 1) = (fAny P v || P v) := by
  unfold fAny
  rw [List.range_succ, List.any_append]
  simp
theorem fAny_up {P : Nat → Bool} {v N : Nat} (h : fAny P v = true) (hv : v ≤ N) : fAny P N = true := by
  obtain ⟨q, h1, h2⟩ := List.any_eq_true.mp h
  exact fAny_t (v := q) (by have := List.mem_range.mp h1; omega) h2
def fGrow (s n k base : Int) : Nat → (Int → Int) → Int → Bool
  | 0, L, e => decide (base < fLen s n k L e)
  | l + 1, L, e => fAny (fun q => (fGo s n k L e (q : Int)).1 && fGrow s n k base l (fGo s n k L e (q : Int)).2.1 (fGo s n k L e (q : Int)).2.2) 4
theorem fLen_i {s n k e : Int} {L : Int → Int} (h : fS s n k) (hL : fL n k L) (he : fC s n e) : 0 ≤ fLen s n k L e ∧ fLen s n k L e ≤ 10125 := by
  have gc := fC_i h he
  have h1 := fTn_i hL h.2.2
  have h2 := fTour_i (L := L) h (e := e) (st := 0) (by omega) (by omega)
  unfold fLen
  omega
theorem k_growsBy {i : Nat} (hi : i < 13) {s n k base : Int} (hb : 0 ≤ base ∧ base ≤ 20000) : ∀ l : Nat, l ≤ 4 → ∀ (m : Nat → Int → Int) (L : Int → Int) (e : Int), jWk m i s n k L e → jq sc (l + 6) jm_X8_growsBy [.ref (jwa i), .int (jI base), .int (jI l)] (jh m r T) (jP (some (.int (jI (jb (fGrow s n k base l L e))))) (jh m r T)) := by
  intro l
  induction l with
  | zero =>
    intro _ m L e g
    have gn := fLen_i g.1.2 g.2.2.2.1 g.2.2.2.2
    unfold fGrow
    refine je_in jb_X8_growsBy rfl (ls := [_, _, _, _, _]) rfl ?_
    refine je_ps jb_X8_growsBy 1 (pc' := 1) (ls' := [_, _, _, _, _]) (st' := [_]) rfl ?_
    refine je_ifgt jb_X8_growsBy rfl (t := 18) rfl (pc' := 4) rfl (by first | omega | exact (hM _ _).1 | exact (hM _ _).2) (by first | omega | exact (hM _ _).1 | exact (hM _ _).2) (fun c1 => ?_) (fun c1 => ?_)
    · first | (exfalso; omega) | (cases c1; done) | (exfalso; simp_all; done)
    · refine je_ps jb_X8_growsBy 1 (pc' := 5) (ls' := [_, _, _, _, _]) (st' := [_]) rfl ?_
      refine je_cvP' jb_X8_growsBy rfl (pc' := 8) rfl (by first | exact jh_V hi g | exact jh_V hi (g0.R37 hi _) | exact jh_walk hi) (by rfl) (by first | decide | exact Nat.ble_eq_true_of_le (by omega)) (k_length hi g) (st' := [_]) rfl ?_
      refine je_ps jb_X8_growsBy 1 (pc' := 9) (ls' := [_, _, _, _, _]) (st' := [_, _]) rfl ?_
      refine je_icmple jb_X8_growsBy rfl (t := 16) rfl (pc' := 12) rfl (by first | omega | exact (hM _ _).1 | exact (hM _ _).2) (by first | omega | exact (hM _ _).1 | exact (hM _ _).2) (by first | omega | exact (hM _ _).1 | exact (hM _ _).2) (by first | omega | exact (hM _ _).1 | exact (hM _ _).2) (fun c9 => ?_) (fun c9 => ?_)
      · refine je_ps jb_X8_growsBy 1 (pc' := 17) (ls' := [_, _, _, _, _]) (st' := [_]) rfl ?_
        exact je_ret jb_X8_growsBy rfl (by rfl) ⟨by (first | rfl | (refine jv_t ?_; simp only [decide_eq_true_eq]; omega) | (refine jv_f ?_; simp only [decide_eq_false_iff_not]; omega) | (refine jv_I ?_; omega)), by (first | rfl | (refine jv_t ?_; simp only [decide_eq_true_eq]; omega) | (refine jv_f ?_; simp only [decide_eq_false_iff_not]; omega) | (refine jv_I ?_; omega))⟩
      · refine je_ps jb_X8_growsBy 2 (pc' := 17) (ls' := [_, _, _, _, _]) (st' := [_]) rfl ?_
        exact je_ret jb_X8_growsBy rfl (by rfl) ⟨by (first | rfl | (refine jv_t ?_; simp only [decide_eq_true_eq]; omega) | (refine jv_f ?_; simp only [decide_eq_false_iff_not]; omega) | (refine jv_I ?_; omega)), by (first | rfl | (refine jv_t ?_; simp only [decide_eq_true_eq]; omega) | (refine jv_f ?_; simp only [decide_eq_false_iff_not]; omega) | (refine jv_I ?_; omega))⟩
  | succ l ih =>
    intro hl m L e g
    have ih' := ih (by omega)
    have g0 := g
    refine je_in jb_X8_growsBy rfl (ls := [_, _, _, _, _]) rfl ?_
    refine je_ps jb_X8_growsBy 1 (pc' := 1) (ls' := [_, _, _, _, _]) (st' := [_]) rfl ?_
    refine je_ifgt jb_X8_growsBy rfl (t := 18) rfl (pc' := 4) rfl (by first | omega | exact (hM _ _).1 | exact (hM _ _).2) (by first | omega | exact (hM _ _).1 | exact (hM _ _).2) (fun c1 => ?_) (fun c1 => ?_)
    · refine je_ps jb_X8_growsBy 4 (pc' := 23) (ls' := [_, _, _, _, _]) (st' := []) rfl ?_
      refine je_loop (fun (v : Nat) ls σ' => ls = [.ref (jwa i), .int (jI base), .int (jI (l + 1 : Nat)), .int (jI (jb (fAny (fun q => (fGo s n k L e (q : Int)).1 && fGrow s n k base l (fGo s n k L e (q : Int)).2.1 (fGo s n k L e (q : Int)).2.2) v))), .int (jI v)] ∧ σ' = jh m r T) (4) ⟨rfl, rfl⟩ (fun v hv ls σ' gv kv => ?_) (fun ls σ' gv => ?_)
      · obtain ⟨rfl, rfl⟩ := gv
        have hs := fAny_s (fun q => (fGo s n k L e (q : Int)).1 && fGrow s n k base l (fGo s n k L e (q : Int)).2.1 (fGo s n k L e (q : Int)).2.2) v
        have gq := fGo_ok (c := (v : Int)) g0.1.2 g0.2.2.2.1 g0.2.2.2.2
        refine je_ps jb_X8_growsBy 2 (pc' := 26) (ls' := [_, _, _, _, _]) (st' := [_, _]) rfl ?_
        refine je_icmpge jb_X8_growsBy rfl (t := 71) rfl (pc' := 29) rfl (by first | omega | exact (hM _ _).1 | exact (hM _ _).2) (by first | omega | exact (hM _ _).1 | exact (hM _ _).2) (by first | omega | exact (hM _ _).1 | exact (hM _ _).2) (by first | omega | exact (hM _ _).1 | exact (hM _ _).2) (fun c26 => ?_) (fun c26 => ?_)
        · first | (exfalso; omega) | (cases c26; done) | (exfalso; simp_all; done)
        · refine je_ps jb_X8_growsBy 1 (pc' := 30) (ls' := [_, _, _, _, _]) (st' := [_]) rfl ?_
          refine je_ifneb jb_X8_growsBy rfl (t := 71) rfl (pc' := 33) rfl (fun c30 => ?_) (fun c30 => ?_)
          · refine je_ps jb_X8_growsBy 1 (pc' := 72) (ls' := [_, _, _, _, _]) (st' := [_]) rfl ?_
            first | (rw [c30]; exact je_retb jb_X8_growsBy rfl ⟨by rw [show fGrow s n k base (l + 1) L e = true from fAny_up c30 (by omega)], rfl⟩) | exact je_retb jb_X8_growsBy rfl ⟨rfl, rfl⟩
          · refine je_ps jb_X8_growsBy 2 (pc' := 35) (ls' := [_, _, _, _, _]) (st' := [_, _]) rfl ?_
            refine je_icmpgt jb_X8_growsBy rfl (t := 65) rfl (pc' := 38) rfl (by first | omega | exact (hM _ _).1 | exact (hM _ _).2) (by first | omega | exact (hM _ _).1 | exact (hM _ _).2) (by first | omega | exact (hM _ _).1 | exact (hM _ _).2) (by first | omega | exact (hM _ _).1 | exact (hM _ _).2) (fun c35 => ?_) (fun c35 => ?_)
            · first | (exfalso; omega) | (cases c35; done) | (exfalso; simp_all; done)
            · refine je_ps jb_X8_growsBy 2 (pc' := 41) (ls' := [_, _, _, _, _]) (st' := [_, _]) rfl ?_
              refine je_cvP' jb_X8_growsBy rfl (pc' := 44) rfl (by first | exact jh_V hi g | exact jh_V hi (g0.R37 hi _) | exact jh_walk hi) (by rfl) (by first | decide | exact Nat.ble_eq_true_of_le (by omega)) (k_goOn hi g (by omega)) (st' := [_]) rfl ?_
              refine je_ifeqb jb_X8_growsBy rfl (t := 65) rfl (pc' := 47) rfl (fun c44 => ?_) (fun c44 => ?_)
              · refine je_iinc jb_X8_growsBy rfl (pc' := 68) rfl rfl (ls' := [_, _, _, _, _]) rfl ?_
                refine je_ps jb_X8_growsBy 1 (pc' := 23) (ls' := [_, _, _, _, _]) (st' := []) rfl ?_
                rw [hs, c30] at kv
                first | (rw [show (fGo s n k L e (v : Int)).1 = true from c44] at kv; refine kv _ _ ⟨rfl, jh_eq ?_⟩; rw [jW_W hi, fGo_back g0.1.2 g0.2.2.2.1 g0.2.2.2.2 c44, ← g0.2.1, ← g0.2.2.1, jW_0 hi]) | (rw [show (fGo s n k L e (v : Int)).1 = false from c44] at kv; refine kv _ _ ⟨by rw [c30]; rfl, jh_eq ?_⟩; rw [fGo_no c44, ← g0.2.1, ← g0.2.2.1, jW_0 hi])
              · have g := jWk.w (m := m) g0.1 hi gq.1 gq.2
                have gx := fX_i (v : Int)
                refine je_ps jb_X8_growsBy 4 (pc' := 51) (ls' := [_, _, _, _, _]) (st' := [_, _, _, _]) rfl ?_
                refine je_isub jb_X8_growsBy rfl (pc' := 52) rfl ?_
                rw [show ((l + 1 : Nat) : Int) - 1 = (l : Int) by omega]
                refine je_csP' jb_X8_growsBy rfl (pc' := 55) rfl (by rfl) (by first | decide | exact Nat.ble_eq_true_of_le (by omega)) (ih' _ _ _ g) (st' := [_]) rfl ?_
                refine je_ps jb_X8_growsBy 4 (pc' := 60) (ls' := [_, _, _, _, _]) (st' := [_, _, _]) rfl ?_
                refine je_ixor1 jb_X8_growsBy rfl (pc' := 61) rfl (by omega) (by omega) ?_
                refine je_cvP' jb_X8_growsBy rfl (pc' := 64) rfl (by first | exact jh_V hi g | exact jh_V hi (g0.R37 hi _) | exact jh_walk hi) (by rfl) (by first | decide | exact Nat.ble_eq_true_of_le (by omega)) (k_goOn hi g (by omega)) (st' := [_]) rfl ?_
                refine je_ps jb_X8_growsBy 1 (pc' := 65) (ls' := [_, _, _, _, _]) (st' := []) rfl ?_
                refine je_iinc jb_X8_growsBy rfl (pc' := 68) rfl rfl (ls' := [_, _, _, _, _]) rfl ?_
                refine je_ps jb_X8_growsBy 1 (pc' := 23) (ls' := [_, _, _, _, _]) (st' := []) rfl ?_
                rw [hs, c30] at kv
                first | (rw [show (fGo s n k L e (v : Int)).1 = true from c44] at kv; refine kv _ _ ⟨rfl, jh_eq ?_⟩; rw [jW_W hi, fGo_back g0.1.2 g0.2.2.2.1 g0.2.2.2.2 c44, ← g0.2.1, ← g0.2.2.1, jW_0 hi]) | (rw [show (fGo s n k L e (v : Int)).1 = false from c44] at kv; refine kv _ _ ⟨by rw [c30]; rfl, jh_eq ?_⟩; rw [fGo_no c44, ← g0.2.1, ← g0.2.2.1, jW_0 hi])
      · obtain ⟨rfl, rfl⟩ := gv
        refine je_ps jb_X8_growsBy 2 (pc' := 26) (ls' := [_, _, _, _, _]) (st' := [_, _]) rfl ?_
        refine je_icmpge jb_X8_growsBy rfl (t := 71) rfl (pc' := 29) rfl (by first | omega | exact (hM _ _).1 | exact (hM _ _).2) (by first | omega | exact (hM _ _).1 | exact (hM _ _).2) (by first | omega | exact (hM _ _).1 | exact (hM _ _).2) (by first | omega | exact (hM _ _).1 | exact (hM _ _).2) (fun c26 => ?_) (fun c26 => ?_)
        · refine je_ps jb_X8_growsBy 1 (pc' := 72) (ls' := [_, _, _, _, _]) (st' := [_]) rfl ?_
          first | (rw [c30]; exact je_retb jb_X8_growsBy rfl ⟨by rw [show fGrow s n k base (l + 1) L e = true from fAny_up c30 (by omega)], rfl⟩) | exact je_retb jb_X8_growsBy rfl ⟨rfl, rfl⟩
        · first | (exfalso; omega) | (cases c26; done) | (exfalso; simp_all; done)
    · first | (exfalso; omega) | (cases c1; done) | (exfalso; simp_all; done)
theorem k_isDead {i : Nat} (hi : i < 13) {s n k e : Int} {L : Int → Int} (g : jWk m i s n k L e) : jq sc 8 jm_X8_isDead [.ref (jwa i)] (jh m r T) (jP (some (.int (jI (jb (!fGrow s n k (fLen s n k L e) 1 L e))))) (jh m r T)) := by
  have gn := fLen_i g.1.2 g.2.2.2.1 g.2.2.2.2
  refine je_in jb_X8_isDead rfl (ls := [_]) rfl ?_
  refine je_ps jb_X8_isDead 2 (pc' := 2) (ls' := [_]) (st' := [_, _]) rfl ?_
  refine je_cvP' jb_X8_isDead rfl (pc' := 5) rfl (by first | exact jh_V hi g | exact jh_V hi (g0.R37 hi _) | exact jh_walk hi) (by rfl) (by first | decide | exact Nat.ble_eq_true_of_le (by omega)) (k_length hi g) (st' := [_, _]) rfl ?_
  refine je_ps jb_X8_isDead 1 (pc' := 6) (ls' := [_]) (st' := [_, _, _]) rfl ?_
  refine je_csP' jb_X8_isDead rfl (pc' := 9) rfl (by rfl) (by first | decide | exact Nat.ble_eq_true_of_le (by omega)) (k_growsBy hi (by omega) 1 (by omega) _ _ _ g) (st' := [_]) rfl ?_
  refine je_ifneb jb_X8_isDead rfl (t := 16) rfl (pc' := 12) rfl (fun c9 => ?_) (fun c9 => ?_)
  · refine je_ps jb_X8_isDead 1 (pc' := 17) (ls' := [_]) (st' := [_]) rfl ?_
    rw [c9]
    exact je_ret jb_X8_isDead rfl (by rfl) ⟨rfl, rfl⟩
  · refine je_ps jb_X8_isDead 2 (pc' := 17) (ls' := [_]) (st' := [_]) rfl ?_
    rw [c9]
    exact je_ret jb_X8_isDead rfl (by rfl) ⟨rfl, rfl⟩
def fDep (s n k : Int) (L : Int → Int) (e : Int) : Int := let v := fFst (fun q => fGrow s n k (fLen s n k L e) (q + 1) L e) 0 4; if v < 4 then (v : Int) + 1 else -9
theorem k_depth {i : Nat} (hi : i < 13) {s n k e : Int} {L : Int → Int} (g : jWk m i s n k L e) : jq sc 12 jm_X8_depth [.ref (jwa i)] (jh m r T) (jP (some (.int (jI (fDep s n k L e)))) (jh m r T)) := by
  have gn := fLen_i g.1.2 g.2.2.2.1 g.2.2.2.2
  refine je_in jb_X8_depth rfl (ls := [_, _, _]) rfl ?_
  refine je_ps jb_X8_depth 1 (pc' := 1) (ls' := [_, _, _]) (st' := [_]) rfl ?_
  refine je_cvP' jb_X8_depth rfl (pc' := 4) rfl (by first | exact jh_V hi g | exact jh_V hi (g0.R37 hi _) | exact jh_walk hi) (by rfl) (by first | decide | exact Nat.ble_eq_true_of_le (by omega)) (k_length hi g) (st' := [_]) rfl ?_
  refine je_ps jb_X8_depth 3 (pc' := 7) (ls' := [_, _, _]) (st' := []) rfl ?_
  refine je_loop (fun (v : Nat) ls σ' => ls = [.ref (jwa i), .int (jI (fLen s n k L e)), .int (jI ((v : Int) + 1))] ∧ σ' = jh m r T ∧ ∀ q, q < v → fGrow s n k (fLen s n k L e) (q + 1) L e = false) (4) ⟨rfl, rfl, fun q hq => by omega⟩ (fun v hv ls σ' gv kv => ?_) (fun ls σ' gv => ?_)
  · obtain ⟨rfl, rfl, fv⟩ := gv
    refine je_ps jb_X8_depth 2 (pc' := 9) (ls' := [_, _, _]) (st' := [_, _]) rfl ?_
    refine je_icmpgt jb_X8_depth rfl (t := 29) rfl (pc' := 12) rfl (by first | omega | exact (hM _ _).1 | exact (hM _ _).2) (by first | omega | exact (hM _ _).1 | exact (hM _ _).2) (by first | omega | exact (hM _ _).1 | exact (hM _ _).2) (by first | omega | exact (hM _ _).1 | exact (hM _ _).2) (fun c9 => ?_) (fun c9 => ?_)
    · first | (exfalso; omega) | (cases c9; done) | (exfalso; simp_all; done)
    · refine je_ps jb_X8_depth 3 (pc' := 15) (ls' := [_, _, _]) (st' := [_, _, _]) rfl ?_
      refine je_csP' jb_X8_depth rfl (pc' := 18) rfl (by rfl) (by first | decide | exact Nat.ble_eq_true_of_le (by omega)) (k_growsBy hi (by omega) (v + 1) (by omega) _ _ _ g) (st' := [_]) rfl ?_
      refine je_ifeqb jb_X8_depth rfl (t := 23) rfl (pc' := 21) rfl (fun c18 => ?_) (fun c18 => ?_)
      · refine je_iinc jb_X8_depth rfl (pc' := 26) rfl rfl (ls' := [_, _, _]) rfl ?_
        refine je_ps jb_X8_depth 1 (pc' := 7) (ls' := [_, _, _]) (st' := []) rfl ?_
        refine kv _ _ ⟨rfl, rfl, fun q hq => ?_⟩
        by_cases h : q = v
        · subst h; exact c18
        · exact fv q (by omega)
      · refine je_ps jb_X8_depth 1 (pc' := 22) (ls' := [_, _, _]) (st' := [_]) rfl ?_
        have q : fFst (fun q => fGrow s n k (fLen s n k L e) (q + 1) L e) 0 4 = v := fFst_hit (P := fun q => fGrow s n k (fLen s n k L e) (q + 1) L e) c18 4 0 (by omega) (by omega) (fun q _ hq => fv q hq)
        exact je_ret jb_X8_depth rfl (by rfl) ⟨jv_I (by unfold fDep; simp only [q]; rw [if_pos hv]), rfl⟩
  · obtain ⟨rfl, rfl, fv⟩ := gv
    refine je_ps jb_X8_depth 2 (pc' := 9) (ls' := [_, _, _]) (st' := [_, _]) rfl ?_
    refine je_icmpgt jb_X8_depth rfl (t := 29) rfl (pc' := 12) rfl (by first | omega | exact (hM _ _).1 | exact (hM _ _).2) (by first | omega | exact (hM _ _).1 | exact (hM _ _).2) (by first | omega | exact (hM _ _).1 | exact (hM _ _).2) (by first | omega | exact (hM _ _).1 | exact (hM _ _).2) (fun c9 => ?_) (fun c9 => ?_)
    · refine je_ps jb_X8_depth 1 (pc' := 31) (ls' := [_, _, _]) (st' := [_]) rfl ?_
      have q : fFst (fun q => fGrow s n k (fLen s n k L e) (q + 1) L e) 0 4 = 0 + 4 := fFst_none 4 0 (fun q _ hq => fv q (by omega))
      exact je_ret jb_X8_depth rfl (by rfl) ⟨jv_I (by unfold fDep; simp only [q]; rfl), rfl⟩
    · first | (exfalso; omega) | (cases c9; done) | (exfalso; simp_all; done)
end C17
