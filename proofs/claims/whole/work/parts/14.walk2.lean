/-! THE CLASS'S WALK, steps and products -/
section C14
variable {sc : Nat × (Nat → Int32)} {m : Nat → Int → Int} {r : Nat → Nat → Value} {T : jx_H} {σ : jx_H}
/-- a memory with one walk told anew -/
def jW (m : Nat → Int → Int) (i : Nat) (L : Int → Int) (e : Int) : Nat → Int → Int := jU (jU m (jwl i) L) (jwa i) (ju (m (jwa i)) 2 e)
def fC (s n c : Int) : Prop := fLo s ≤ c ∧ c < fLo s + n
def jWk (m : Nat → Int → Int) (i : Nat) (s n k : Int) (L : Int → Int) (e : Int) : Prop := jStr m i s n k ∧ m (jwl i) = L ∧ m (jwa i) 2 = e ∧ fL n k L ∧ fC s n e
theorem ju_self (f : Int → Int) (j : Int) : ju f j (f j) = f := by
  funext p
  unfold ju
  by_cases h : p = j
  · subst h; simp
  · simp [h]
theorem ju_ju (f : Int → Int) (j a b : Int) : ju (ju f j a) j b = ju f j b := by
  funext p
  unfold ju
  by_cases h : p = j <;> simp [h]
theorem jW_L {i : Nat} (hi : i < 13) (m : Nat → Int → Int) (L : Int → Int) (e : Int) : jW m i L e (jwl i) = L := by
  unfold jW
  rw [jU_ne (jw_ne hi hi).2.1, jU_same]
theorem jW_A (m : Nat → Int → Int) (i : Nat) (L : Int → Int) (e : Int) : jW m i L e (jwa i) = ju (m (jwa i)) 2 e := by
  unfold jW
  rw [jU_same]
theorem jW_E (m : Nat → Int → Int) (i : Nat) (L : Int → Int) (e : Int) : jW m i L e (jwa i) 2 = e := by rw [jW_A, ju_same]
theorem jW_ne {i b : Nat} {m : Nat → Int → Int} {L : Int → Int} {e : Int} (h1 : b ≠ jwl i) (h2 : b ≠ jwa i) : jW m i L e b = m b := by
  unfold jW
  rw [jU_ne h2, jU_ne h1]
theorem jW_W {i : Nat} (hi : i < 13) (m : Nat → Int → Int) (L L' : Int → Int) (e e' : Int) : jW (jW m i L e) i L' e' = jW m i L' e' := by
  funext b
  by_cases h1 : b = jwl i
  · subst h1
    rw [jW_L hi, jW_L hi]
  · by_cases h2 : b = jwa i
    · subst h2
      rw [jW_A, jW_A, jW_A, ju_ju]
    · rw [jW_ne h1 h2, jW_ne h1 h2, jW_ne h1 h2]
theorem jW_l {i : Nat} (hi : i < 13) (m : Nat → Int → Int) (L L' : Int → Int) (e : Int) : jU (jW m i L e) (jwl i) L' = jW m i L' e := by
  rw [← jW_W hi m L L' e e]
  conv => rhs; unfold jW
  conv => rhs; rw [show (jU (jU m (jwl i) L) (jwa i) (ju (m (jwa i)) 2 e)) = jW m i L e from rfl]
  rw [jW_A, ju_ju, ← jW_A m i L e]
  rw [jU_comm (jw_ne hi hi).2.1, jU_self]
theorem jW_l0 {i : Nat} (hi : i < 13) (m : Nat → Int → Int) (L : Int → Int) : jU m (jwl i) L = jW m i L (m (jwa i) 2) := by
  unfold jW
  rw [ju_self, jU_comm (jw_ne hi hi).2.1, jU_self]
theorem jW_0 {i : Nat} (hi : i < 13) (m : Nat → Int → Int) : jW m i (m (jwl i)) (m (jwa i) 2) = m := by
  rw [← jW_l0 hi, jU_self]
theorem jW_a {i : Nat} (m : Nat → Int → Int) (L : Int → Int) (e e' : Int) : jU (jW m i L e) (jwa i) (ju (jW m i L e (jwa i)) 2 e') = jW m i L e' := by
  rw [jW_A, ju_ju]
  unfold jW
  rw [jU_jU]
theorem jStr.w {i j : Nat} {s n k : Int} (g : jStr m i s n k) (hi : i < 13) (hj : j < 13) (L : Int → Int) (e : Int) : jStr (jW m j L e) i s n k := by
  unfold jStr at *
  rwa [jW_ne (jw_ne hj hi).1.symm (jw_ne hj hi).2.2.symm]
theorem jWk.w {i : Nat} {s n k e' : Int} {L' : Int → Int} (g : jStr m i s n k) (hi : i < 13) (h1 : fL n k L') (h2 : fC s n e') : jWk (jW m i L' e') i s n k L' e' :=
  ⟨g.w hi hi L' e', jW_L hi m L' e', jW_E m i L' e', h1, h2⟩
theorem jWk.o {i j : Nat} {s n k e : Int} {L : Int → Int} (g : jWk m i s n k L e) (hi : i < 13) (hj : j < 13) (h : i ≠ j) (L' : Int → Int) (e' : Int) : jWk (jW m j L' e') i s n k L e := by
  obtain ⟨g1, g2, g3, g4, g5⟩ := g
  have q := jw_inj hi hj h
  refine ⟨g1.w hi hj L' e', ?_, ?_, g4, g5⟩
  · rw [jW_ne q.1 (jw_ne hi hj).2.1]; exact g2
  · rw [jW_ne (jw_ne hj hi).2.1.symm q.2]; exact g3
theorem jh_V {i : Nat} (hi : i < 13) {s n k e : Int} {L : Int → Int} (g : jWk m i s n k L e) : (jh m r T)[jwa i]? = some (8, [.ref (jws i), .ref (jwl i), .int (jI e)]) := by rw [jh_walk hi, g.2.2.1]
theorem jh_VL {i : Nat} (hi : i < 13) {s n k e : Int} {L : Int → Int} (g : jWk m i s n k L e) : (jh m r T)[jwl i]? = some (jA 25 L) := by rw [jh_lamps hi, g.2.1]
theorem jh_VS {i : Nat} (hi : i < 13) {s n k e : Int} {L : Int → Int} (g : jWk m i s n k L e) : (jh m r T)[jws i]? = some (5, [.int (jI s), .int (jI n), .int (jI k)]) := by rw [jh_str hi, g.1.1.1, g.1.1.2.1, g.1.1.2.2]
theorem fC_i {s n k c : Int} (h : fS s n k) (hc : fC s n c) : -12 ≤ c ∧ c ≤ 12 := by
  have := fLo_c s
  unfold fC at hc
  unfold fS at h
  omega
theorem fPl_i {s n k : Int} (h : fS s n k) (c : Int) : (fHas s n c = true ∧ fPl s n c = c - fLo s ∧ 0 ≤ fPl s n c ∧ fPl s n c < n) ∨ (fHas s n c = false ∧ fPl s n c = -1) := by
  have gl := fLo_c s
  unfold fS at h
  rcases fPl_c s n c with ⟨h1, h2⟩ | ⟨h1, h2⟩
  · have := fHas_t h1
    exact Or.inl ⟨h1, h2, by omega⟩
  · exact Or.inr ⟨h1, h2⟩
theorem fRe_i {s n k c b : Int} (h : fS s n k) (hc : -100 ≤ c ∧ c ≤ 100) (hb : -100 ≤ b ∧ b ≤ 100) : -200 ≤ fRe s n c b ∧ fRe s n c b ≤ 200 := by
  unfold fRe
  unfold fS at h
  by_cases h1 : s = 1
  · rw [if_pos h1]
    have := Int.emod_nonneg (c + b) (show n ≠ 0 by omega)
    have := Int.emod_lt_of_pos (c + b) (show 0 < n by omega)
    omega
  · rw [if_neg h1]
    omega
theorem fTu_ok {s n k c b : Int} {L : Int → Int} (h : fS s n k) (hL : fL n k L) : fL n k (fTu s n k L c b) := by
  unfold fTu
  by_cases h1 : fHas s n c = true
  · rw [if_pos h1]
    have q := fPl_i h c
    unfold fS at h
    constructor
    · intro p
      unfold ju
      by_cases h2 : p = fPl s n c
      · rw [if_pos h2]
        exact ⟨Int.emod_nonneg _ (by omega), Int.emod_lt_of_pos _ (by omega)⟩
      · rw [if_neg h2]
        exact hL.1 p
    · intro p hp
      unfold ju
      by_cases h2 : p = fPl s n c
      · exfalso
        simp [h1] at q
        omega
      · rw [if_neg h2]
        exact hL.2 p hp
  · rw [if_neg h1]
    exact hL
theorem jF_25 (f g : Int → Int) (p : Int) (h : 0 ≤ p ∧ p < 25) : jF f g 25 p = g p := by
  unfold jF
  rw [if_pos h]
/-- what one letter does: whether, lamps, END -/
def fGo (s n k : Int) (L : Int → Int) (e c : Int) : Bool × (Int → Int) × Int :=
  if c = 0 then (true, fTu s n k L e 1, e) else if c = 1 then (true, fTu s n k L e (-1), e) else
  if c = 2 then (if fHas s n (fRe s n e 1) = true then (true, L, fRe s n e 1) else (false, L, e)) else
  if c = 3 then (if fHas s n (fRe s n e (-1)) = true then (true, L, fRe s n e (-1)) else (false, L, e)) else (false, L, e)
theorem fGo_ok {s n k e c : Int} {L : Int → Int} (h : fS s n k) (hL : fL n k L) (he : fC s n e) : fL n k (fGo s n k L e c).2.1 ∧ fC s n (fGo s n k L e c).2.2 := by
  unfold fGo
  split
  · exact ⟨fTu_ok h hL, he⟩
  · split
    · exact ⟨fTu_ok h hL, he⟩
    · split
      · split
        · rename_i h1
          exact ⟨hL, fHas_t h1⟩
        · exact ⟨hL, he⟩
      · split
        · split
          · rename_i h1
            exact ⟨hL, fHas_t h1⟩
          · exact ⟨hL, he⟩
        · exact ⟨hL, he⟩
theorem k_at {i : Nat} (hi : i < 13) {s n k e p : Int} {L : Int → Int} (g : jWk m i s n k L e) (hp : -2147483648 ≤ p ∧ p ≤ 2147483647) : jq sc 1 jm_X8_showsAtPlace [.ref (jwa i), .int (jI p)] (jh m r T) (jP (some (.int (jI (fAt L p)))) (jh m r T)) := by
  have := c_X8_showsAtPlace (sc := sc) (m := m) (r := r) (T := T) hi hp
  rwa [g.2.1] at this
theorem k_shows {i : Nat} (hi : i < 13) {s n k e c : Int} {L : Int → Int} (g : jWk m i s n k L e) (hc : -2147483648 ≤ c ∧ c ≤ 2147483647) : jq sc 4 jm_X8_shows [.ref (jwa i), .int (jI c)] (jh m r T) (jP (some (.int (jI (fSh s n L c)))) (jh m r T)) := by
  have := c_X8_shows (sc := sc) (m := m) (r := r) (T := T) hi g.1 hc
  rwa [g.2.1] at this
theorem k_turn {i : Nat} (hi : i < 13) {s n k e c b : Int} {L : Int → Int} (g : jWk m i s n k L e) (hc : -2147483648 ≤ c ∧ c ≤ 2147483647) (hb : -1000000 ≤ b ∧ b ≤ 1000000) : jq sc 4 jm_X8_turn [.ref (jwa i), .int (jI c), .int (jI b)] (jh m r T) (jP none (jh (jW m i (fTu s n k L c b) e) r T)) := by
  have := c_X8_turn (sc := sc) (m := m) (r := r) (T := T) hi g.1 (by rw [g.2.1]; exact g.2.2.2.1) hc hb
  rwa [g.2.1, jW_l0 hi, g.2.2.1] at this
theorem k_moveEnd {i : Nat} (hi : i < 13) {s n k e b : Int} {L : Int → Int} (g : jWk m i s n k L e) (hb : -1 ≤ b ∧ b ≤ 1) : jq sc 3 jm_X8_moveEnd [.ref (jwa i), .int (jI b)] (jh m r T) (jP (some (.int (jI (jb (fHas s n (fRe s n e b)))))) (jh (jW m i L (if fHas s n (fRe s n e b) = true then fRe s n e b else e)) r T)) := by
  have gc := fC_i g.1.2 g.2.2.2.2
  have gr := fRe_i (b := b) g.1.2 (c := e) (by omega) (by omega)
  refine je_in jb_X8_moveEnd rfl (ls := [_, _, _]) rfl ?_
  refine je_ps jb_X8_moveEnd 1 (pc' := 1) (ls' := [_, _, _]) (st' := [_]) rfl ?_
  refine je_get jb_X8_moveEnd rfl (pc' := 4) rfl (by first | exact jh_V hi g | exact jh_V hi (g0.R37 hi _) | exact jh_walk hi) (by rfl) (by rfl) ?_
  refine je_ps jb_X8_moveEnd 1 (pc' := 5) (ls' := [_, _, _]) (st' := [_, _]) rfl ?_
  refine je_get jb_X8_moveEnd rfl (pc' := 8) rfl (by first | exact jh_V hi g | exact jh_V hi (g0.R37 hi _) | exact jh_walk hi) (by rfl) (by rfl) ?_
  refine je_ps jb_X8_moveEnd 1 (pc' := 9) (ls' := [_, _, _]) (st' := [_, _, _]) rfl ?_
  refine je_cvP' jb_X8_moveEnd rfl (pc' := 12) rfl (jh_VS hi g) (by rfl) (by first | decide | exact Nat.ble_eq_true_of_le (by omega)) (c_X5_reach hi g.1 (by omega) (by omega)) (st' := [_]) rfl ?_
  refine je_ps jb_X8_moveEnd 2 (pc' := 14) (ls' := [_, _, _]) (st' := [_]) rfl ?_
  refine je_get jb_X8_moveEnd rfl (pc' := 17) rfl (by first | exact jh_V hi g | exact jh_V hi (g0.R37 hi _) | exact jh_walk hi) (by rfl) (by rfl) ?_
  refine je_ps jb_X8_moveEnd 1 (pc' := 18) (ls' := [_, _, _]) (st' := [_, _]) rfl ?_
  refine je_cvP' jb_X8_moveEnd rfl (pc' := 21) rfl (jh_VS hi g) (by rfl) (by first | decide | exact Nat.ble_eq_true_of_le (by omega)) (c_X5_has hi g.1 (by omega)) (st' := [_]) rfl ?_
  refine je_ifneb jb_X8_moveEnd rfl (t := 26) rfl (pc' := 24) rfl (fun c21 => ?_) (fun c21 => ?_)
  · refine je_ps jb_X8_moveEnd 2 (pc' := 28) (ls' := [_, _, _]) (st' := [_, _]) rfl ?_
    refine je_pute jb_X8_moveEnd rfl (pc' := 31) rfl hi (by rfl) (by rfl) ?_
    refine je_ps jb_X8_moveEnd 1 (pc' := 32) (ls' := [_, _, _]) (st' := [_]) rfl ?_
    exact je_ret jb_X8_moveEnd rfl (by rfl) ⟨by rw [c21]; rfl, jh_eq (by rw [c21, ← g.2.1]; first | (rw [if_neg (by decide), ← g.2.2.1, jW_0 hi]; done) | (rw [if_pos rfl]; unfold jW; rw [jU_self]; done))⟩
  · refine je_ps jb_X8_moveEnd 1 (pc' := 25) (ls' := [_, _, _]) (st' := [_]) rfl ?_
    exact je_ret jb_X8_moveEnd rfl (by rfl) ⟨by rw [c21]; rfl, jh_eq (by rw [c21, ← g.2.1]; first | (rw [if_neg (by decide), ← g.2.2.1, jW_0 hi]; done) | (rw [if_pos rfl]; unfold jW; rw [jU_self]; done))⟩
theorem k_goOn {i : Nat} (hi : i < 13) {s n k e c : Int} {L : Int → Int} (g : jWk m i s n k L e) (hc : -2147483648 ≤ c ∧ c ≤ 2147483647) : jq sc 5 jm_X8_goOn [.ref (jwa i), .int (jI c)] (jh m r T) (jP (some (.int (jI (jb (fGo s n k L e c).1)))) (jh (jW m i (fGo s n k L e c).2.1 (fGo s n k L e c).2.2) r T)) := by
  have gc := fC_i g.1.2 g.2.2.2.2
  refine je_in jb_X8_goOn rfl (ls := [_, _]) rfl ?_
  refine je_ps jb_X8_goOn 1 (pc' := 1) (ls' := [_, _]) (st' := [_]) rfl ?_
  refine je_swc fun y1 ey1 => ?_
  rcases (by omega : y1 = 0 ∨ y1 = 1 ∨ y1 = 2 ∨ y1 = 3 ∨ (y1 < 0 ∨ 3 < y1)) with c1 | c1 | c1 | c1 | c1
  · rw [c1]
    refine je_sw jb_X8_goOn rfl (t := 32) (st' := []) rfl ?_
    refine je_ps jb_X8_goOn 2 (pc' := 34) (ls' := [_, _]) (st' := [_, _]) rfl ?_
    refine je_get jb_X8_goOn rfl (pc' := 37) rfl (by first | exact jh_V hi g | exact jh_V hi (g0.R37 hi _) | exact jh_walk hi) (by rfl) (by rfl) ?_
    refine je_ps jb_X8_goOn 1 (pc' := 38) (ls' := [_, _]) (st' := [_, _, _]) rfl ?_
    refine je_cvP' jb_X8_goOn rfl (pc' := 41) rfl (by first | exact jh_V hi g | exact jh_V hi (g0.R37 hi _) | exact jh_walk hi) (by rfl) (by first | decide | exact Nat.ble_eq_true_of_le (by omega)) (k_turn hi g (by omega) (by omega)) (st' := []) rfl ?_
    refine je_ps jb_X8_goOn 1 (pc' := 42) (ls' := [_, _]) (st' := [_]) rfl ?_
    rw [← ey1, c1]; exact je_ret jb_X8_goOn rfl (by rfl) ⟨rfl, rfl⟩
  · rw [c1]
    refine je_sw jb_X8_goOn rfl (t := 43) (st' := []) rfl ?_
    refine je_ps jb_X8_goOn 2 (pc' := 45) (ls' := [_, _]) (st' := [_, _]) rfl ?_
    refine je_get jb_X8_goOn rfl (pc' := 48) rfl (by first | exact jh_V hi g | exact jh_V hi (g0.R37 hi _) | exact jh_walk hi) (by rfl) (by rfl) ?_
    refine je_ps jb_X8_goOn 1 (pc' := 49) (ls' := [_, _]) (st' := [_, _, _]) rfl ?_
    refine je_cvP' jb_X8_goOn rfl (pc' := 52) rfl (by first | exact jh_V hi g | exact jh_V hi (g0.R37 hi _) | exact jh_walk hi) (by rfl) (by first | decide | exact Nat.ble_eq_true_of_le (by omega)) (k_turn hi g (by omega) (by omega)) (st' := []) rfl ?_
    refine je_ps jb_X8_goOn 1 (pc' := 53) (ls' := [_, _]) (st' := [_]) rfl ?_
    rw [← ey1, c1]; exact je_ret jb_X8_goOn rfl (by rfl) ⟨rfl, rfl⟩
  · rw [c1]
    refine je_sw jb_X8_goOn rfl (t := 54) (st' := []) rfl ?_
    refine je_ps jb_X8_goOn 2 (pc' := 56) (ls' := [_, _]) (st' := [_, _]) rfl ?_
    refine je_cvP' jb_X8_goOn rfl (pc' := 59) rfl (by first | exact jh_V hi g | exact jh_V hi (g0.R37 hi _) | exact jh_walk hi) (by rfl) (by first | decide | exact Nat.ble_eq_true_of_le (by omega)) (k_moveEnd hi g (by omega)) (st' := [_]) rfl ?_
    rw [← ey1, c1]; refine je_retb jb_X8_goOn rfl ⟨?_, ?_⟩
    · unfold fGo; by_cases q : fHas s n (fRe s n e 1) = true <;> simp [q]
    · unfold fGo; by_cases q : fHas s n (fRe s n e 1) = true <;> simp [q]
  · rw [c1]
    refine je_sw jb_X8_goOn rfl (t := 60) (st' := []) rfl ?_
    refine je_ps jb_X8_goOn 2 (pc' := 62) (ls' := [_, _]) (st' := [_, _]) rfl ?_
    refine je_cvP' jb_X8_goOn rfl (pc' := 65) rfl (by first | exact jh_V hi g | exact jh_V hi (g0.R37 hi _) | exact jh_walk hi) (by rfl) (by first | decide | exact Nat.ble_eq_true_of_le (by omega)) (k_moveEnd hi g (by omega)) (st' := [_]) rfl ?_
    rw [← ey1, c1]; refine je_retb jb_X8_goOn rfl ⟨?_, ?_⟩
    · unfold fGo; by_cases q : fHas s n (fRe s n e (-1)) = true <;> simp [q]
    · unfold fGo; by_cases q : fHas s n (fRe s n e (-1)) = true <;> simp [q]
  · refine je_swO jb_X8_goOn rfl (t := 66) rfl (by omega) (by omega) c1 ?_
    refine je_ps jb_X8_goOn 1 (pc' := 67) (ls' := [_, _]) (st' := [_]) rfl ?_
    have q : fGo s n k L e c = (false, L, e) := by unfold fGo; rw [if_neg (by omega), if_neg (by omega), if_neg (by omega), if_neg (by omega)]
    rw [q]
    exact je_ret jb_X8_goOn rfl (by rfl) ⟨rfl, jh_eq (by rw [← g.2.1, ← g.2.2.1, jW_0 hi])⟩
end C14
