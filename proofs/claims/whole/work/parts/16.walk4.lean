/-! THE CLASS'S WALK, counts and tours -/
section C16
variable {sc : Nat × (Nat → Int32)} {m : Nat → Int → Int} {r : Nat → Nat → Value} {T : jx_H} {σ : jx_H}
def fSum (f : Int → Int) : Nat → Int
  | 0 => 0
  | v + 1 => fSum f v + f (v : Int)
theorem fSum_b {f : Int → Int} {B : Int} (h : ∀ p : Int, 0 ≤ f p ∧ f p ≤ B) : ∀ v : Nat, 0 ≤ fSum f v ∧ fSum f v ≤ B * v
  | 0 => by simp [fSum]
  | v + 1 => by
    have q := fSum_b h v
    have q2 := h v
    show 0 ≤ fSum f v + f v ∧ fSum f v + f v ≤ B * ((v + 1 : Nat) : Int)
    have e : B * ((v + 1 : Nat) : Int) = B * v + B := by
      rw [show ((v + 1 : Nat) : Int) = (v : Int) + 1 from rfl, Int.mul_add, Int.mul_one]
    omega
def fAll (P : Nat → Bool) (N : Nat) : Bool := (List.range N).all P
theorem fAll_t {P : Nat → Bool} {N : Nat} (h : ∀ q, q < N → P q = true) : fAll P N = true :=
  List.all_eq_true.mpr fun q hq => h q (List.mem_range.mp hq)
theorem fAll_f {P : Nat → Bool} {N v : Nat} (h : v < N) (hv : P v = false) : fAll P N = false := by
  cases hq : fAll P N with
  | false => rfl
  | true =>
    have := List.all_eq_true.mp hq v (List.mem_range.mpr h)
    rw [hv] at this
    cases this
theorem fAll_at {P : Nat → Bool} {N : Nat} (h : fAll P N = true) {v : Nat} (hv : v < N) : P v = true := List.all_eq_true.mp h v (List.mem_range.mpr hv)
def fAny (P : Nat → Bool) (N : Nat) : Bool := (List.range N).any P
theorem fAny_t {P : Nat → Bool} {N v : Nat} (h : v < N) (hv : P v = true) : fAny P N = true := List.any_eq_true.mpr ⟨v, List.mem_range.mpr h, hv⟩
theorem fAny_f {P : Nat → Bool} {N : Nat} (h : ∀ q, q < N → P q = false) : fAny P N = false := by
  cases hq : fAny P N with
  | false => rfl
  | true =>
    obtain ⟨q, h1, h2⟩ := List.any_eq_true.mp hq
    rw [h q (List.mem_range.mp h1)] at h2
    cases h2
/-- the first number from so far on, of so many more, for which it holds -/
def fFst (P : Nat → Bool) : Nat → Nat → Nat
  | p, 0 => p
  | p, f + 1 => if P p = true then p else fFst P (p + 1) f
theorem fFst_hit {P : Nat → Bool} {v : Nat} (hv : P v = true) : ∀ f p, p ≤ v → v < p + f → (∀ q, p ≤ q → q < v → P q = false) → fFst P p f = v
  | 0, p, h1, h2, _ => by omega
  | f + 1, p, h1, h2, h3 => by
    unfold fFst
    by_cases e : p = v
    · subst e
      rw [if_pos hv]
    · rw [if_neg (by rw [h3 p (by omega) (by omega)]; decide)]
      exact fFst_hit hv f (p + 1) (by omega) (by omega) (fun q q1 q2 => h3 q (by omega) q2)
theorem fFst_none {P : Nat → Bool} : ∀ f p, (∀ q, p ≤ q → q < p + f → P q = false) → fFst P p f = p + f
  | 0, p, _ => rfl
  | f + 1, p, h3 => by
    unfold fFst
    rw [if_neg (by rw [h3 p (by omega) (by omega)]; decide), fFst_none f (p + 1) (fun q q1 q2 => h3 q (by omega) (by omega))]
    omega
theorem fFst_le (P : Nat → Bool) : ∀ f p, p ≤ fFst P p f ∧ fFst P p f ≤ p + f
  | 0, p => by simp [fFst]
  | f + 1, p => by
    unfold fFst
    have := fFst_le P f (p + 1)
    split <;> omega
def fLit (L : Int → Int) : Int := fSum (fun p => if 0 < L p then 1 else 0) 25
def fTn (k : Int) (L : Int → Int) : Int := fSum (fun p => min (L p) (k - L p)) 25
def fLow (s : Int) (L : Int → Int) (st : Int) : Nat → Int
  | 0 => 0
  | v + 1 => if 0 < L (v : Int) then min (fLow s L st v) (fLo s + (v : Int) - st) else fLow s L st v
def fHigh (s : Int) (L : Int → Int) (st : Int) : Nat → Int
  | 0 => 0
  | v + 1 => if 0 < L (v : Int) then max (fHigh s L st v) (fLo s + (v : Int) - st) else fHigh s L st v
theorem fLow_i {s st : Int} {L : Int → Int} (h : -100 ≤ st ∧ st ≤ 100) : ∀ v : Nat, v ≤ 25 → -200 ≤ fLow s L st v ∧ fLow s L st v ≤ 0
  | 0, _ => by simp [fLow]
  | v + 1, hv => by
    have q := fLow_i (s := s) (L := L) h v (by omega)
    have gl := fLo_c s
    unfold fLow
    split <;> omega
theorem fHigh_i {s st : Int} {L : Int → Int} (h : -100 ≤ st ∧ st ≤ 100) : ∀ v : Nat, v ≤ 25 → 0 ≤ fHigh s L st v ∧ fHigh s L st v ≤ 200
  | 0, _ => by simp [fHigh]
  | v + 1, hv => by
    have q := fHigh_i (s := s) (L := L) h v (by omega)
    have gl := fLo_c s
    unfold fHigh
    split <;> omega
def fTrip (a b g : Int) : Int := jabs a + jabs ((if b = 0 then a else b) - a) + jabs (g - (if b = 0 then a else b))
def fSt (a b g : Int) : Int := min (fTrip a b g) (fTrip b a g)
theorem jabs_c (a : Int) : (0 ≤ a ∧ jabs a = a) ∨ (a < 0 ∧ jabs a = -a) := by
  unfold jabs
  split <;> omega
theorem fTrip_i {a b g : Int} (ha : -1000 ≤ a ∧ a ≤ 1000) (hb : -1000 ≤ b ∧ b ≤ 1000) (hg : -1000 ≤ g ∧ g ≤ 1000) : 0 ≤ fTrip a b g ∧ fTrip a b g ≤ 10000 := by
  unfold fTrip
  have h1 := jabs_c a
  split
  · have h2 := jabs_c (a - a)
    have h3 := jabs_c (g - a)
    omega
  · have h2 := jabs_c (b - a)
    have h3 := jabs_c (g - b)
    omega
theorem fSt_i {a b g : Int} (ha : -1000 ≤ a ∧ a ≤ 1000) (hb : -1000 ≤ b ∧ b ≤ 1000) (hg : -1000 ≤ g ∧ g ≤ 1000) : 0 ≤ fSt a b g ∧ fSt a b g ≤ 10000 := by
  have h1 := fTrip_i ha hb hg
  have h2 := fTrip_i hb ha hg
  unfold fSt
  omega
def fUp (L : Int → Int) (n st : Int) : Nat → Int
  | 0 => 0
  | v + 1 => if 0 < fAt L ((st + (v : Int)) % n) then (v : Int) else fUp L n st v
theorem fUp_i (L : Int → Int) (n st : Int) : ∀ v : Nat, 0 ≤ fUp L n st v ∧ fUp L n st v ≤ v
  | 0 => by simp [fUp]
  | v + 1 => by
    have q := fUp_i L n st v
    unfold fUp
    split <;> omega
def fBest (L : Int → Int) (n st goal : Int) : Nat → Int
  | 0 => 1000
  | v + 1 => min (fBest L n st goal v) (min (fSt (-(n - 1 - (v : Int))) (fUp L n st (v + 1)) goal) (fSt (-(n - 1 - (v : Int))) (fUp L n st (v + 1)) (goal - n)))
theorem fBest_i {L : Int → Int} {n st goal : Int} (hn : 3 ≤ n ∧ n ≤ 8) (hg : 0 ≤ goal ∧ goal < n) : ∀ v : Nat, v ≤ 8 → 0 ≤ fBest L n st goal v ∧ fBest L n st goal v ≤ 2147483647 ∧ (0 < v → fBest L n st goal v ≤ 10000)
  | 0, _ => by simp [fBest]
  | v + 1, hv => by
    have q := fBest_i (L := L) (st := st) hn hg v (by omega)
    have u := fUp_i L n st (v + 1)
    have h1 := fSt_i (a := -(n - 1 - (v : Int))) (b := fUp L n st (v + 1)) (g := goal) (by omega) (by omega) (by omega)
    have h2 := fSt_i (a := -(n - 1 - (v : Int))) (b := fUp L n st (v + 1)) (g := goal - n) (by omega) (by omega) (by omega)
    unfold fBest
    omega
def fTour (s n : Int) (L : Int → Int) (e st : Int) : Int := if s = 0 then fSt (fLow s L st 25) (fHigh s L st 25) (e - st) else fBest L n st ((e - st) % n) n.toNat
theorem fTour_i {s n k e st : Int} {L : Int → Int} (h : fS s n k) (he : -12 ≤ e ∧ e ≤ 12) (hs : -12 ≤ st ∧ st ≤ 12) : 0 ≤ fTour s n L e st ∧ fTour s n L e st ≤ 10000 := by
  unfold fTour
  have h1 := fLow_i (s := s) (L := L) (st := st) (by omega) 25 (by omega)
  have h2 := fHigh_i (s := s) (L := L) (st := st) (by omega) 25 (by omega)
  unfold fS at h
  split
  · exact fSt_i (by omega) (by omega) (by omega)
  · have h3 := fBest_i (L := L) (st := st) (n := n) (goal := (e - st) % n) (by omega) ⟨Int.emod_nonneg _ (by omega), Int.emod_lt_of_pos _ (by omega)⟩ n.toNat (by omega)
    omega
def fLen (s n k : Int) (L : Int → Int) (e : Int) : Int := fTn k L + fTour s n L e 0
theorem c_X11_trip {a b g : Int} (ha : -1000 ≤ a ∧ a ≤ 1000) (hb : -1000 ≤ b ∧ b ≤ 1000) (hg : -1000 ≤ g ∧ g ≤ 1000) : jq sc 1 jm_X11_trip [.int (jI a), .int (jI b), .int (jI g)] σ (jP (some (.int (jI (fTrip a b g)))) σ) := by
  have h1 := jabs_c a
  have h2 := jabs_c (a - a)
  have h3 := jabs_c (b - a)
  unfold fTrip
  refine je_in jb_X11_trip rfl (ls := [_, _, _, _]) rfl ?_
  refine je_ps jb_X11_trip 1 (pc' := 1) (ls' := [_, _, _, _]) (st' := [_]) rfl ?_
  refine je_ifne jb_X11_trip rfl (t := 8) rfl (pc' := 4) rfl (by first | omega | exact (hM _ _).1 | exact (hM _ _).2) (by first | omega | exact (hM _ _).1 | exact (hM _ _).2) (fun c1 => ?_) (fun c1 => ?_)
  · refine je_ps jb_X11_trip 3 (pc' := 11) (ls' := [_, _, _, _]) (st' := [_]) rfl ?_
    refine je_abs jb_X11_trip rfl (pc' := 14) rfl rfl rfl (by first | omega | exact (hM _ _).1 | exact (hM _ _).2) (by first | omega | exact (hM _ _).1 | exact (hM _ _).2) ?_
    refine je_ps jb_X11_trip 2 (pc' := 16) (ls' := [_, _, _, _]) (st' := [_, _, _]) rfl ?_
    refine je_isub jb_X11_trip rfl (pc' := 17) rfl ?_
    refine je_abs jb_X11_trip rfl (pc' := 20) rfl rfl rfl (by first | omega | exact (hM _ _).1 | exact (hM _ _).2) (by first | omega | exact (hM _ _).1 | exact (hM _ _).2) ?_
    refine je_iadd jb_X11_trip rfl (pc' := 21) rfl ?_
    refine je_ps jb_X11_trip 2 (pc' := 23) (ls' := [_, _, _, _]) (st' := [_, _, _]) rfl ?_
    refine je_isub jb_X11_trip rfl (pc' := 24) rfl ?_
    refine je_abs jb_X11_trip rfl (pc' := 27) rfl rfl rfl (by first | omega | exact (hM _ _).1 | exact (hM _ _).2) (by first | omega | exact (hM _ _).1 | exact (hM _ _).2) ?_
    refine je_iadd jb_X11_trip rfl (pc' := 28) rfl ?_
    exact je_ret jb_X11_trip rfl (by rfl) ⟨by first | rw [if_pos c1] | rw [if_neg c1] | rw [if_neg (by omega)] | rw [if_pos (by omega)], rfl⟩
  · refine je_ps jb_X11_trip 4 (pc' := 11) (ls' := [_, _, _, _]) (st' := [_]) rfl ?_
    refine je_abs jb_X11_trip rfl (pc' := 14) rfl rfl rfl (by first | omega | exact (hM _ _).1 | exact (hM _ _).2) (by first | omega | exact (hM _ _).1 | exact (hM _ _).2) ?_
    refine je_ps jb_X11_trip 2 (pc' := 16) (ls' := [_, _, _, _]) (st' := [_, _, _]) rfl ?_
    refine je_isub jb_X11_trip rfl (pc' := 17) rfl ?_
    refine je_abs jb_X11_trip rfl (pc' := 20) rfl rfl rfl (by first | omega | exact (hM _ _).1 | exact (hM _ _).2) (by first | omega | exact (hM _ _).1 | exact (hM _ _).2) ?_
    refine je_iadd jb_X11_trip rfl (pc' := 21) rfl ?_
    refine je_ps jb_X11_trip 2 (pc' := 23) (ls' := [_, _, _, _]) (st' := [_, _, _]) rfl ?_
    refine je_isub jb_X11_trip rfl (pc' := 24) rfl ?_
    refine je_abs jb_X11_trip rfl (pc' := 27) rfl rfl rfl (by first | omega | exact (hM _ _).1 | exact (hM _ _).2) (by first | omega | exact (hM _ _).1 | exact (hM _ _).2) ?_
    refine je_iadd jb_X11_trip rfl (pc' := 28) rfl ?_
    exact je_ret jb_X11_trip rfl (by rfl) ⟨by first | rw [if_pos c1] | rw [if_neg c1] | rw [if_neg (by omega)] | rw [if_pos (by omega)], rfl⟩
theorem c_X11_shorterTrip {a b g : Int} (ha : -1000 ≤ a ∧ a ≤ 1000) (hb : -1000 ≤ b ∧ b ≤ 1000) (hg : -1000 ≤ g ∧ g ≤ 1000) : jq sc 2 jm_X11_shorterTrip [.int (jI a), .int (jI b), .int (jI g)] σ (jP (some (.int (jI (fSt a b g)))) σ) := by
  have h1 := fTrip_i ha hb hg
  have h2 := fTrip_i hb ha hg
  refine je_in jb_X11_shorterTrip rfl (ls := [_, _, _]) rfl ?_
  refine je_ps jb_X11_shorterTrip 3 (pc' := 3) (ls' := [_, _, _]) (st' := [_, _, _]) rfl ?_
  refine je_csP' jb_X11_shorterTrip rfl (pc' := 6) rfl (by rfl) (by first | decide | exact Nat.ble_eq_true_of_le (by omega)) (c_X11_trip (by omega) (by omega) (by omega)) (st' := [_]) rfl ?_
  refine je_ps jb_X11_shorterTrip 3 (pc' := 9) (ls' := [_, _, _]) (st' := [_, _, _, _]) rfl ?_
  refine je_csP' jb_X11_shorterTrip rfl (pc' := 12) rfl (by rfl) (by first | decide | exact Nat.ble_eq_true_of_le (by omega)) (c_X11_trip (by omega) (by omega) (by omega)) (st' := [_, _]) rfl ?_
  refine je_min jb_X11_shorterTrip rfl (pc' := 15) rfl rfl rfl (by first | omega | exact (hM _ _).1 | exact (hM _ _).2) (by first | omega | exact (hM _ _).1 | exact (hM _ _).2) (by first | omega | exact (hM _ _).1 | exact (hM _ _).2) (by first | omega | exact (hM _ _).1 | exact (hM _ _).2) ?_
  exact je_ret jb_X11_shorterTrip rfl (by rfl) ⟨by (first | rfl | (refine jv_t ?_; simp only [decide_eq_true_eq]; omega) | (refine jv_f ?_; simp only [decide_eq_false_iff_not]; omega) | (refine jv_I ?_; omega)), by (first | rfl | (refine jv_t ?_; simp only [decide_eq_true_eq]; omega) | (refine jv_f ?_; simp only [decide_eq_false_iff_not]; omega) | (refine jv_I ?_; omega))⟩
theorem k_litLamps {i : Nat} (hi : i < 13) {s n k e : Int} {L : Int → Int} (g : jWk m i s n k L e) : jq sc 1 jm_X8_litLamps [.ref (jwa i)] (jh m r T) (jP (some (.int (jI (fLit L)))) (jh m r T)) := by
  have gk : 2 ≤ k ∧ k ≤ 5 := g.1.2.2
  refine je_in jb_X8_litLamps rfl (ls := [_, _, _]) rfl ?_
  refine je_ps jb_X8_litLamps 4 (pc' := 4) (ls' := [_, _, _]) (st' := []) rfl ?_
  refine je_loop (fun (v : Nat) ls σ' => ls = [.ref (jwa i), .int (jI (fSum (fun p => if 0 < L p then 1 else 0) v)), .int (jI v)] ∧ σ' = jh m r T) (25) ⟨rfl, rfl⟩ (fun v hv ls σ' gv kv => ?_) (fun ls σ' gv => ?_)
  · obtain ⟨rfl, rfl⟩ := gv
    have gq := g.2.2.2.1.1 (v : Int)
    have gz : fSum (fun p => if 0 < L p then 1 else 0) (v + 1) = fSum (fun p => if 0 < L p then 1 else 0) v + (if 0 < L (v : Int) then 1 else 0) := rfl
    refine je_ps jb_X8_litLamps 2 (pc' := 6) (ls' := [_, _, _]) (st' := [_, _]) rfl ?_
    refine je_get jb_X8_litLamps rfl (pc' := 9) rfl (by first | exact jh_V hi g | exact jh_V hi (g0.R37 hi _) | exact jh_walk hi) (by rfl) (by rfl) ?_
    refine je_alen jb_X8_litLamps rfl (pc' := 10) rfl (jh_VL hi g) ?_
    refine je_icmpge jb_X8_litLamps rfl (t := 36) rfl (pc' := 13) rfl (by first | omega | exact (hM _ _).1 | exact (hM _ _).2) (by first | omega | exact (hM _ _).1 | exact (hM _ _).2) (by first | omega | exact (hM _ _).1 | exact (hM _ _).2) (by first | omega | exact (hM _ _).1 | exact (hM _ _).2) (fun c10 => ?_) (fun c10 => ?_)
    · first | (exfalso; omega) | (cases c10; done) | (exfalso; simp_all; done)
    · refine je_ps jb_X8_litLamps 2 (pc' := 15) (ls' := [_, _, _]) (st' := [_, _]) rfl ?_
      refine je_get jb_X8_litLamps rfl (pc' := 18) rfl (by first | exact jh_V hi g | exact jh_V hi (g0.R37 hi _) | exact jh_walk hi) (by rfl) (by rfl) ?_
      refine je_ps jb_X8_litLamps 1 (pc' := 19) (ls' := [_, _, _]) (st' := [_, _, _]) rfl ?_
      refine je_iald jb_X8_litLamps rfl (pc' := 20) rfl (jh_VL hi g) (by first | omega | exact (hM _ _).1 | exact (hM _ _).2) (by first | omega | exact (hM _ _).1 | exact (hM _ _).2) (by first | omega | exact (hM _ _).1 | exact (hM _ _).2) ?_
      refine je_ifle jb_X8_litLamps rfl (t := 27) rfl (pc' := 23) rfl (by first | omega | exact (hM _ _).1 | exact (hM _ _).2) (by first | omega | exact (hM _ _).1 | exact (hM _ _).2) (fun c20 => ?_) (fun c20 => ?_)
      · refine je_ps jb_X8_litLamps 1 (pc' := 28) (ls' := [_, _, _]) (st' := [_, _]) rfl ?_
        refine je_iadd jb_X8_litLamps rfl (pc' := 29) rfl ?_
        refine je_ps jb_X8_litLamps 1 (pc' := 30) (ls' := [_, _, _]) (st' := []) rfl ?_
        refine je_iinc jb_X8_litLamps rfl (pc' := 33) rfl rfl (ls' := [_, _, _]) rfl ?_
        refine je_ps jb_X8_litLamps 1 (pc' := 4) (ls' := [_, _, _]) (st' := []) rfl ?_
        refine kv _ _ ⟨?_, rfl⟩
        rw [gz]
        first | (rw [if_pos (by omega)]; rfl) | (rw [if_neg (by omega)]; rfl)
      · refine je_ps jb_X8_litLamps 2 (pc' := 28) (ls' := [_, _, _]) (st' := [_, _]) rfl ?_
        refine je_iadd jb_X8_litLamps rfl (pc' := 29) rfl ?_
        refine je_ps jb_X8_litLamps 1 (pc' := 30) (ls' := [_, _, _]) (st' := []) rfl ?_
        refine je_iinc jb_X8_litLamps rfl (pc' := 33) rfl rfl (ls' := [_, _, _]) rfl ?_
        refine je_ps jb_X8_litLamps 1 (pc' := 4) (ls' := [_, _, _]) (st' := []) rfl ?_
        refine kv _ _ ⟨?_, rfl⟩
        rw [gz]
        first | (rw [if_pos (by omega)]; rfl) | (rw [if_neg (by omega)]; rfl)
  · obtain ⟨rfl, rfl⟩ := gv
    refine je_ps jb_X8_litLamps 2 (pc' := 6) (ls' := [_, _, _]) (st' := [_, _]) rfl ?_
    refine je_get jb_X8_litLamps rfl (pc' := 9) rfl (by first | exact jh_V hi g | exact jh_V hi (g0.R37 hi _) | exact jh_walk hi) (by rfl) (by rfl) ?_
    refine je_alen jb_X8_litLamps rfl (pc' := 10) rfl (jh_VL hi g) ?_
    refine je_icmpge jb_X8_litLamps rfl (t := 36) rfl (pc' := 13) rfl (by first | omega | exact (hM _ _).1 | exact (hM _ _).2) (by first | omega | exact (hM _ _).1 | exact (hM _ _).2) (by first | omega | exact (hM _ _).1 | exact (hM _ _).2) (by first | omega | exact (hM _ _).1 | exact (hM _ _).2) (fun c10 => ?_) (fun c10 => ?_)
    · refine je_ps jb_X8_litLamps 1 (pc' := 37) (ls' := [_, _, _]) (st' := [_]) rfl ?_
      exact je_ret jb_X8_litLamps rfl (by rfl) ⟨by (first | rfl | (refine jv_t ?_; simp only [decide_eq_true_eq]; omega) | (refine jv_f ?_; simp only [decide_eq_false_iff_not]; omega) | (refine jv_I ?_; omega)), by (first | rfl | (refine jv_t ?_; simp only [decide_eq_true_eq]; omega) | (refine jv_f ?_; simp only [decide_eq_false_iff_not]; omega) | (refine jv_I ?_; omega))⟩
    · first | (exfalso; omega) | (cases c10; done) | (exfalso; simp_all; done)
theorem k_turns {i : Nat} (hi : i < 13) {s n k e : Int} {L : Int → Int} (g : jWk m i s n k L e) : jq sc 1 jm_X8_turns [.ref (jwa i)] (jh m r T) (jP (some (.int (jI (fTn k L)))) (jh m r T)) := by
  have gk : 2 ≤ k ∧ k ≤ 5 := g.1.2.2
  refine je_in jb_X8_turns rfl (ls := [_, _, _]) rfl ?_
  refine je_ps jb_X8_turns 4 (pc' := 4) (ls' := [_, _, _]) (st' := []) rfl ?_
  refine je_loop (fun (v : Nat) ls σ' => ls = [.ref (jwa i), .int (jI (fSum (fun p => min (L p) (k - L p)) v)), .int (jI v)] ∧ σ' = jh m r T) (25) ⟨rfl, rfl⟩ (fun v hv ls σ' gv kv => ?_) (fun ls σ' gv => ?_)
  · obtain ⟨rfl, rfl⟩ := gv
    have gq := g.2.2.2.1.1 (v : Int)
    refine je_ps jb_X8_turns 2 (pc' := 6) (ls' := [_, _, _]) (st' := [_, _]) rfl ?_
    refine je_get jb_X8_turns rfl (pc' := 9) rfl (by first | exact jh_V hi g | exact jh_V hi (g0.R37 hi _) | exact jh_walk hi) (by rfl) (by rfl) ?_
    refine je_alen jb_X8_turns rfl (pc' := 10) rfl (jh_VL hi g) ?_
    refine je_icmpge jb_X8_turns rfl (t := 45) rfl (pc' := 13) rfl (by first | omega | exact (hM _ _).1 | exact (hM _ _).2) (by first | omega | exact (hM _ _).1 | exact (hM _ _).2) (by first | omega | exact (hM _ _).1 | exact (hM _ _).2) (by first | omega | exact (hM _ _).1 | exact (hM _ _).2) (fun c10 => ?_) (fun c10 => ?_)
    · first | (exfalso; omega) | (cases c10; done) | (exfalso; simp_all; done)
    · refine je_ps jb_X8_turns 2 (pc' := 15) (ls' := [_, _, _]) (st' := [_, _]) rfl ?_
      refine je_get jb_X8_turns rfl (pc' := 18) rfl (by first | exact jh_V hi g | exact jh_V hi (g0.R37 hi _) | exact jh_walk hi) (by rfl) (by rfl) ?_
      refine je_ps jb_X8_turns 1 (pc' := 19) (ls' := [_, _, _]) (st' := [_, _, _]) rfl ?_
      refine je_iald jb_X8_turns rfl (pc' := 20) rfl (jh_VL hi g) (by first | omega | exact (hM _ _).1 | exact (hM _ _).2) (by first | omega | exact (hM _ _).1 | exact (hM _ _).2) (by first | omega | exact (hM _ _).1 | exact (hM _ _).2) ?_
      refine je_ps jb_X8_turns 1 (pc' := 21) (ls' := [_, _, _]) (st' := [_, _, _]) rfl ?_
      refine je_get jb_X8_turns rfl (pc' := 24) rfl (by first | exact jh_V hi g | exact jh_V hi (g0.R37 hi _) | exact jh_walk hi) (by rfl) (by rfl) ?_
      refine je_get jb_X8_turns rfl (pc' := 27) rfl (jh_VS hi g) (by rfl) (by rfl) ?_
      refine je_ps jb_X8_turns 1 (pc' := 28) (ls' := [_, _, _]) (st' := [_, _, _, _]) rfl ?_
      refine je_get jb_X8_turns rfl (pc' := 31) rfl (by first | exact jh_V hi g | exact jh_V hi (g0.R37 hi _) | exact jh_walk hi) (by rfl) (by rfl) ?_
      refine je_ps jb_X8_turns 1 (pc' := 32) (ls' := [_, _, _]) (st' := [_, _, _, _, _]) rfl ?_
      refine je_iald jb_X8_turns rfl (pc' := 33) rfl (jh_VL hi g) (by first | omega | exact (hM _ _).1 | exact (hM _ _).2) (by first | omega | exact (hM _ _).1 | exact (hM _ _).2) (by first | omega | exact (hM _ _).1 | exact (hM _ _).2) ?_
      refine je_isub jb_X8_turns rfl (pc' := 34) rfl ?_
      refine je_min jb_X8_turns rfl (pc' := 37) rfl rfl rfl (by first | omega | exact (hM _ _).1 | exact (hM _ _).2) (by first | omega | exact (hM _ _).1 | exact (hM _ _).2) (by first | omega | exact (hM _ _).1 | exact (hM _ _).2) (by first | omega | exact (hM _ _).1 | exact (hM _ _).2) ?_
      refine je_iadd jb_X8_turns rfl (pc' := 38) rfl ?_
      refine je_ps jb_X8_turns 1 (pc' := 39) (ls' := [_, _, _]) (st' := []) rfl ?_
      refine je_iinc jb_X8_turns rfl (pc' := 42) rfl rfl (ls' := [_, _, _]) rfl ?_
      refine je_ps jb_X8_turns 1 (pc' := 4) (ls' := [_, _, _]) (st' := []) rfl ?_
      exact kv _ _ ⟨rfl, rfl⟩
  · obtain ⟨rfl, rfl⟩ := gv
    refine je_ps jb_X8_turns 2 (pc' := 6) (ls' := [_, _, _]) (st' := [_, _]) rfl ?_
    refine je_get jb_X8_turns rfl (pc' := 9) rfl (by first | exact jh_V hi g | exact jh_V hi (g0.R37 hi _) | exact jh_walk hi) (by rfl) (by rfl) ?_
    refine je_alen jb_X8_turns rfl (pc' := 10) rfl (jh_VL hi g) ?_
    refine je_icmpge jb_X8_turns rfl (t := 45) rfl (pc' := 13) rfl (by first | omega | exact (hM _ _).1 | exact (hM _ _).2) (by first | omega | exact (hM _ _).1 | exact (hM _ _).2) (by first | omega | exact (hM _ _).1 | exact (hM _ _).2) (by first | omega | exact (hM _ _).1 | exact (hM _ _).2) (fun c10 => ?_) (fun c10 => ?_)
    · refine je_ps jb_X8_turns 1 (pc' := 46) (ls' := [_, _, _]) (st' := [_]) rfl ?_
      exact je_ret jb_X8_turns rfl (by rfl) ⟨by (first | rfl | (refine jv_t ?_; simp only [decide_eq_true_eq]; omega) | (refine jv_f ?_; simp only [decide_eq_false_iff_not]; omega) | (refine jv_I ?_; omega)), by (first | rfl | (refine jv_t ?_; simp only [decide_eq_true_eq]; omega) | (refine jv_f ?_; simp only [decide_eq_false_iff_not]; omega) | (refine jv_I ?_; omega))⟩
    · first | (exfalso; omega) | (cases c10; done) | (exfalso; simp_all; done)
theorem k_lowFrom {i : Nat} (hi : i < 13) {s n k e st : Int} {L : Int → Int} (g : jWk m i s n k L e) (hs : -12 ≤ st ∧ st ≤ 12) : jq sc 2 jm_X8_lowFrom [.ref (jwa i), .int (jI st)] (jh m r T) (jP (some (.int (jI (fLow s L st 25)))) (jh m r T)) := by
  have gk : 2 ≤ k ∧ k ≤ 5 := g.1.2.2
  have gl := fLo_c s
  refine je_in jb_X8_lowFrom rfl (ls := [_, _, _, _]) rfl ?_
  refine je_ps jb_X8_lowFrom 4 (pc' := 4) (ls' := [_, _, _, _]) (st' := []) rfl ?_
  refine je_loop (fun (v : Nat) ls σ' => ls = [.ref (jwa i), .int (jI st), .int (jI (fLow s L st v)), .int (jI v)] ∧ σ' = jh m r T) (25) ⟨rfl, rfl⟩ (fun v hv ls σ' gv kv => ?_) (fun ls σ' gv => ?_)
  · obtain ⟨rfl, rfl⟩ := gv
    have gq := g.2.2.2.1.1 (v : Int)
    have gw := fLow_i (s := s) (L := L) (st := st) (by omega) v (by omega)
    have gz : fLow s L st (v + 1) = if 0 < L (v : Int) then min (fLow s L st v) (fLo s + (v : Int) - st) else fLow s L st v := rfl
    refine je_ps jb_X8_lowFrom 2 (pc' := 6) (ls' := [_, _, _, _]) (st' := [_, _]) rfl ?_
    refine je_get jb_X8_lowFrom rfl (pc' := 9) rfl (by first | exact jh_V hi g | exact jh_V hi (g0.R37 hi _) | exact jh_walk hi) (by rfl) (by rfl) ?_
    refine je_alen jb_X8_lowFrom rfl (pc' := 10) rfl (jh_VL hi g) ?_
    refine je_icmpge jb_X8_lowFrom rfl (t := 44) rfl (pc' := 13) rfl (by first | omega | exact (hM _ _).1 | exact (hM _ _).2) (by first | omega | exact (hM _ _).1 | exact (hM _ _).2) (by first | omega | exact (hM _ _).1 | exact (hM _ _).2) (by first | omega | exact (hM _ _).1 | exact (hM _ _).2) (fun c10 => ?_) (fun c10 => ?_)
    · first | (exfalso; omega) | (cases c10; done) | (exfalso; simp_all; done)
    · refine je_ps jb_X8_lowFrom 1 (pc' := 14) (ls' := [_, _, _, _]) (st' := [_]) rfl ?_
      refine je_get jb_X8_lowFrom rfl (pc' := 17) rfl (by first | exact jh_V hi g | exact jh_V hi (g0.R37 hi _) | exact jh_walk hi) (by rfl) (by rfl) ?_
      refine je_ps jb_X8_lowFrom 1 (pc' := 18) (ls' := [_, _, _, _]) (st' := [_, _]) rfl ?_
      refine je_iald jb_X8_lowFrom rfl (pc' := 19) rfl (jh_VL hi g) (by first | omega | exact (hM _ _).1 | exact (hM _ _).2) (by first | omega | exact (hM _ _).1 | exact (hM _ _).2) (by first | omega | exact (hM _ _).1 | exact (hM _ _).2) ?_
      refine je_ifle jb_X8_lowFrom rfl (t := 38) rfl (pc' := 22) rfl (by first | omega | exact (hM _ _).1 | exact (hM _ _).2) (by first | omega | exact (hM _ _).1 | exact (hM _ _).2) (fun c19 => ?_) (fun c19 => ?_)
      · refine je_iinc jb_X8_lowFrom rfl (pc' := 41) rfl rfl (ls' := [_, _, _, _]) rfl ?_
        refine je_ps jb_X8_lowFrom 1 (pc' := 4) (ls' := [_, _, _, _]) (st' := []) rfl ?_
        refine kv _ _ ⟨?_, rfl⟩
        rw [gz]
        first | (rw [if_pos (by omega)]; rfl) | (rw [if_neg (by omega)]; rfl)
      · refine je_ps jb_X8_lowFrom 2 (pc' := 24) (ls' := [_, _, _, _]) (st' := [_, _]) rfl ?_
        refine je_get jb_X8_lowFrom rfl (pc' := 27) rfl (by first | exact jh_V hi g | exact jh_V hi (g0.R37 hi _) | exact jh_walk hi) (by rfl) (by rfl) ?_
        refine je_cvP' jb_X8_lowFrom rfl (pc' := 30) rfl (jh_VS hi g) (by rfl) (by first | decide | exact Nat.ble_eq_true_of_le (by omega)) (c_X5_least hi g.1) (st' := [_, _]) rfl ?_
        refine je_ps jb_X8_lowFrom 1 (pc' := 31) (ls' := [_, _, _, _]) (st' := [_, _, _]) rfl ?_
        refine je_iadd jb_X8_lowFrom rfl (pc' := 32) rfl ?_
        refine je_ps jb_X8_lowFrom 1 (pc' := 33) (ls' := [_, _, _, _]) (st' := [_, _, _]) rfl ?_
        refine je_isub jb_X8_lowFrom rfl (pc' := 34) rfl ?_
        refine je_min jb_X8_lowFrom rfl (pc' := 37) rfl rfl rfl (by first | omega | exact (hM _ _).1 | exact (hM _ _).2) (by first | omega | exact (hM _ _).1 | exact (hM _ _).2) (by first | omega | exact (hM _ _).1 | exact (hM _ _).2) (by first | omega | exact (hM _ _).1 | exact (hM _ _).2) ?_
        refine je_ps jb_X8_lowFrom 1 (pc' := 38) (ls' := [_, _, _, _]) (st' := []) rfl ?_
        refine je_iinc jb_X8_lowFrom rfl (pc' := 41) rfl rfl (ls' := [_, _, _, _]) rfl ?_
        refine je_ps jb_X8_lowFrom 1 (pc' := 4) (ls' := [_, _, _, _]) (st' := []) rfl ?_
        refine kv _ _ ⟨?_, rfl⟩
        rw [gz]
        first | (rw [if_pos (by omega)]; rfl) | (rw [if_neg (by omega)]; rfl)
  · obtain ⟨rfl, rfl⟩ := gv
    refine je_ps jb_X8_lowFrom 2 (pc' := 6) (ls' := [_, _, _, _]) (st' := [_, _]) rfl ?_
    refine je_get jb_X8_lowFrom rfl (pc' := 9) rfl (by first | exact jh_V hi g | exact jh_V hi (g0.R37 hi _) | exact jh_walk hi) (by rfl) (by rfl) ?_
    refine je_alen jb_X8_lowFrom rfl (pc' := 10) rfl (jh_VL hi g) ?_
    refine je_icmpge jb_X8_lowFrom rfl (t := 44) rfl (pc' := 13) rfl (by first | omega | exact (hM _ _).1 | exact (hM _ _).2) (by first | omega | exact (hM _ _).1 | exact (hM _ _).2) (by first | omega | exact (hM _ _).1 | exact (hM _ _).2) (by first | omega | exact (hM _ _).1 | exact (hM _ _).2) (fun c10 => ?_) (fun c10 => ?_)
    · refine je_ps jb_X8_lowFrom 1 (pc' := 45) (ls' := [_, _, _, _]) (st' := [_]) rfl ?_
      exact je_ret jb_X8_lowFrom rfl (by rfl) ⟨by (first | rfl | (refine jv_t ?_; simp only [decide_eq_true_eq]; omega) | (refine jv_f ?_; simp only [decide_eq_false_iff_not]; omega) | (refine jv_I ?_; omega)), by (first | rfl | (refine jv_t ?_; simp only [decide_eq_true_eq]; omega) | (refine jv_f ?_; simp only [decide_eq_false_iff_not]; omega) | (refine jv_I ?_; omega))⟩
    · first | (exfalso; omega) | (cases c10; done) | (exfalso; simp_all; done)
theorem k_highFrom {i : Nat} (hi : i < 13) {s n k e st : Int} {L : Int → Int} (g : jWk m i s n k L e) (hs : -12 ≤ st ∧ st ≤ 12) : jq sc 2 jm_X8_highFrom [.ref (jwa i), .int (jI st)] (jh m r T) (jP (some (.int (jI (fHigh s L st 25)))) (jh m r T)) := by
  have gk : 2 ≤ k ∧ k ≤ 5 := g.1.2.2
  have gl := fLo_c s
  refine je_in jb_X8_highFrom rfl (ls := [_, _, _, _]) rfl ?_
  refine je_ps jb_X8_highFrom 4 (pc' := 4) (ls' := [_, _, _, _]) (st' := []) rfl ?_
  refine je_loop (fun (v : Nat) ls σ' => ls = [.ref (jwa i), .int (jI st), .int (jI (fHigh s L st v)), .int (jI v)] ∧ σ' = jh m r T) (25) ⟨rfl, rfl⟩ (fun v hv ls σ' gv kv => ?_) (fun ls σ' gv => ?_)
  · obtain ⟨rfl, rfl⟩ := gv
    have gq := g.2.2.2.1.1 (v : Int)
    have gw := fHigh_i (s := s) (L := L) (st := st) (by omega) v (by omega)
    have gz : fHigh s L st (v + 1) = if 0 < L (v : Int) then max (fHigh s L st v) (fLo s + (v : Int) - st) else fHigh s L st v := rfl
    refine je_ps jb_X8_highFrom 2 (pc' := 6) (ls' := [_, _, _, _]) (st' := [_, _]) rfl ?_
    refine je_get jb_X8_highFrom rfl (pc' := 9) rfl (by first | exact jh_V hi g | exact jh_V hi (g0.R37 hi _) | exact jh_walk hi) (by rfl) (by rfl) ?_
    refine je_alen jb_X8_highFrom rfl (pc' := 10) rfl (jh_VL hi g) ?_
    refine je_icmpge jb_X8_highFrom rfl (t := 44) rfl (pc' := 13) rfl (by first | omega | exact (hM _ _).1 | exact (hM _ _).2) (by first | omega | exact (hM _ _).1 | exact (hM _ _).2) (by first | omega | exact (hM _ _).1 | exact (hM _ _).2) (by first | omega | exact (hM _ _).1 | exact (hM _ _).2) (fun c10 => ?_) (fun c10 => ?_)
    · first | (exfalso; omega) | (cases c10; done) | (exfalso; simp_all; done)
    · refine je_ps jb_X8_highFrom 1 (pc' := 14) (ls' := [_, _, _, _]) (st' := [_]) rfl ?_
      refine je_get jb_X8_highFrom rfl (pc' := 17) rfl (by first | exact jh_V hi g | exact jh_V hi (g0.R37 hi _) | exact jh_walk hi) (by rfl) (by rfl) ?_
      refine je_ps jb_X8_highFrom 1 (pc' := 18) (ls' := [_, _, _, _]) (st' := [_, _]) rfl ?_
      refine je_iald jb_X8_highFrom rfl (pc' := 19) rfl (jh_VL hi g) (by first | omega | exact (hM _ _).1 | exact (hM _ _).2) (by first | omega | exact (hM _ _).1 | exact (hM _ _).2) (by first | omega | exact (hM _ _).1 | exact (hM _ _).2) ?_
      refine je_ifle jb_X8_highFrom rfl (t := 38) rfl (pc' := 22) rfl (by first | omega | exact (hM _ _).1 | exact (hM _ _).2) (by first | omega | exact (hM _ _).1 | exact (hM _ _).2) (fun c19 => ?_) (fun c19 => ?_)
      · refine je_iinc jb_X8_highFrom rfl (pc' := 41) rfl rfl (ls' := [_, _, _, _]) rfl ?_
        refine je_ps jb_X8_highFrom 1 (pc' := 4) (ls' := [_, _, _, _]) (st' := []) rfl ?_
        refine kv _ _ ⟨?_, rfl⟩
        rw [gz]
        first | (rw [if_pos (by omega)]; rfl) | (rw [if_neg (by omega)]; rfl)
      · refine je_ps jb_X8_highFrom 2 (pc' := 24) (ls' := [_, _, _, _]) (st' := [_, _]) rfl ?_
        refine je_get jb_X8_highFrom rfl (pc' := 27) rfl (by first | exact jh_V hi g | exact jh_V hi (g0.R37 hi _) | exact jh_walk hi) (by rfl) (by rfl) ?_
        refine je_cvP' jb_X8_highFrom rfl (pc' := 30) rfl (jh_VS hi g) (by rfl) (by first | decide | exact Nat.ble_eq_true_of_le (by omega)) (c_X5_least hi g.1) (st' := [_, _]) rfl ?_
        refine je_ps jb_X8_highFrom 1 (pc' := 31) (ls' := [_, _, _, _]) (st' := [_, _, _]) rfl ?_
        refine je_iadd jb_X8_highFrom rfl (pc' := 32) rfl ?_
        refine je_ps jb_X8_highFrom 1 (pc' := 33) (ls' := [_, _, _, _]) (st' := [_, _, _]) rfl ?_
        refine je_isub jb_X8_highFrom rfl (pc' := 34) rfl ?_
        refine je_max jb_X8_highFrom rfl (pc' := 37) rfl rfl rfl (by first | omega | exact (hM _ _).1 | exact (hM _ _).2) (by first | omega | exact (hM _ _).1 | exact (hM _ _).2) (by first | omega | exact (hM _ _).1 | exact (hM _ _).2) (by first | omega | exact (hM _ _).1 | exact (hM _ _).2) ?_
        refine je_ps jb_X8_highFrom 1 (pc' := 38) (ls' := [_, _, _, _]) (st' := []) rfl ?_
        refine je_iinc jb_X8_highFrom rfl (pc' := 41) rfl rfl (ls' := [_, _, _, _]) rfl ?_
        refine je_ps jb_X8_highFrom 1 (pc' := 4) (ls' := [_, _, _, _]) (st' := []) rfl ?_
        refine kv _ _ ⟨?_, rfl⟩
        rw [gz]
        first | (rw [if_pos (by omega)]; rfl) | (rw [if_neg (by omega)]; rfl)
  · obtain ⟨rfl, rfl⟩ := gv
    refine je_ps jb_X8_highFrom 2 (pc' := 6) (ls' := [_, _, _, _]) (st' := [_, _]) rfl ?_
    refine je_get jb_X8_highFrom rfl (pc' := 9) rfl (by first | exact jh_V hi g | exact jh_V hi (g0.R37 hi _) | exact jh_walk hi) (by rfl) (by rfl) ?_
    refine je_alen jb_X8_highFrom rfl (pc' := 10) rfl (jh_VL hi g) ?_
    refine je_icmpge jb_X8_highFrom rfl (t := 44) rfl (pc' := 13) rfl (by first | omega | exact (hM _ _).1 | exact (hM _ _).2) (by first | omega | exact (hM _ _).1 | exact (hM _ _).2) (by first | omega | exact (hM _ _).1 | exact (hM _ _).2) (by first | omega | exact (hM _ _).1 | exact (hM _ _).2) (fun c10 => ?_) (fun c10 => ?_)
    · refine je_ps jb_X8_highFrom 1 (pc' := 45) (ls' := [_, _, _, _]) (st' := [_]) rfl ?_
      exact je_ret jb_X8_highFrom rfl (by rfl) ⟨by (first | rfl | (refine jv_t ?_; simp only [decide_eq_true_eq]; omega) | (refine jv_f ?_; simp only [decide_eq_false_iff_not]; omega) | (refine jv_I ?_; omega)), by (first | rfl | (refine jv_t ?_; simp only [decide_eq_true_eq]; omega) | (refine jv_f ?_; simp only [decide_eq_false_iff_not]; omega) | (refine jv_I ?_; omega))⟩
    · first | (exfalso; omega) | (cases c10; done) | (exfalso; simp_all; done)
theorem k_tourFrom {i : Nat} (hi : i < 13) {s n k e st : Int} {L : Int → Int} (g : jWk m i s n k L e) (hs : -12 ≤ st ∧ st ≤ 12) : jq sc 3 jm_X8_tourFrom [.ref (jwa i), .int (jI st)] (jh m r T) (jP (some (.int (jI (fTour s n L e st)))) (jh m r T)) := by
  have gs := g.1.2
  unfold fS at gs
  have gc := fC_i g.1.2 g.2.2.2.2
  have h1 := fLow_i (s := s) (L := L) (st := st) (by omega) 25 (by omega)
  have h2 := fHigh_i (s := s) (L := L) (st := st) (by omega) 25 (by omega)
  have h3 := Int.emod_nonneg (e - st) (show n ≠ 0 by omega)
  have h4 := Int.emod_lt_of_pos (e - st) (show 0 < n by omega)
  refine je_in jb_X8_tourFrom rfl (ls := [_, _, _, _, _, _, _, _, _, _]) rfl ?_
  refine je_ps jb_X8_tourFrom 1 (pc' := 1) (ls' := [_, _, _, _, _, _, _, _, _, _]) (st' := [_]) rfl ?_
  refine je_get jb_X8_tourFrom rfl (pc' := 4) rfl (by first | exact jh_V hi g | exact jh_V hi (g0.R37 hi _) | exact jh_walk hi) (by rfl) (by rfl) ?_
  refine je_cvP' jb_X8_tourFrom rfl (pc' := 7) rfl (jh_VS hi g) (by rfl) (by first | decide | exact Nat.ble_eq_true_of_le (by omega)) (c_X5_isLine hi g.1) (st' := [_]) rfl ?_
  refine je_ifeqb jb_X8_tourFrom rfl (t := 30) rfl (pc' := 10) rfl (fun c7 => ?_) (fun c7 => ?_)
  · have c7' := of_decide_eq_false c7
    have gn : 3 ≤ n ∧ n ≤ 8 := by omega
    refine je_ps jb_X8_tourFrom 1 (pc' := 31) (ls' := [_, _, _, _, _, _, _, _, _, _]) (st' := [_]) rfl ?_
    refine je_get jb_X8_tourFrom rfl (pc' := 34) rfl (by first | exact jh_V hi g | exact jh_V hi (g0.R37 hi _) | exact jh_walk hi) (by rfl) (by rfl) ?_
    refine je_get jb_X8_tourFrom rfl (pc' := 37) rfl (jh_VS hi g) (by rfl) (by rfl) ?_
    refine je_ps jb_X8_tourFrom 2 (pc' := 39) (ls' := [_, _, _, _, _, _, _, _, _, _]) (st' := [_]) rfl ?_
    refine je_get jb_X8_tourFrom rfl (pc' := 42) rfl (by first | exact jh_V hi g | exact jh_V hi (g0.R37 hi _) | exact jh_walk hi) (by rfl) (by rfl) ?_
    refine je_ps jb_X8_tourFrom 1 (pc' := 43) (ls' := [_, _, _, _, _, _, _, _, _, _]) (st' := [_, _]) rfl ?_
    refine je_isub jb_X8_tourFrom rfl (pc' := 44) rfl ?_
    refine je_ps jb_X8_tourFrom 1 (pc' := 45) (ls' := [_, _, _, _, _, _, _, _, _, _]) (st' := [_, _]) rfl ?_
    refine je_csP' jb_X8_tourFrom rfl (pc' := 48) rfl (by rfl) (by first | decide | exact Nat.ble_eq_true_of_le (by omega)) (c_X11_around (by omega) (by omega) (by omega) (by omega)) (st' := [_]) rfl ?_
    refine je_ps jb_X8_tourFrom 7 (pc' := 60) (ls' := [_, _, _, _, _, _, _, _, _, _]) (st' := []) rfl ?_
    refine je_loop (fun (v : Nat) ls σ' => ∃ x y z, ls = [.ref (jwa i), .int (jI st), .int (jI n), .int (jI ((e - st) % n)), .int (jI (fBest L n st ((e - st) % n) v)), .int (jI (fUp L n st v)), .int (jI v), x, y, z] ∧ σ' = jh m r T) (n.toNat) ⟨_, _, _, rfl, rfl⟩ (fun v hv ls σ' gv kv => ?_) (fun ls σ' gv => ?_)
    · obtain ⟨x, y, z, rfl, rfl⟩ := gv
      have gw := fBest_i (L := L) (st := st) (n := n) (goal := (e - st) % n) (by omega) ⟨h3, h4⟩ v (by omega)
      have gu := fUp_i L n st v
      have h5 := Int.emod_nonneg (st + (v : Int)) (show n ≠ 0 by omega)
      have h6 := Int.emod_lt_of_pos (st + (v : Int)) (show 0 < n by omega)
      have ga := fAt_i g.2.2.2.1 (show 0 < k by omega) ((st + (v : Int)) % n)
      have q1 := fSt_i (a := -(n - 1 - (v : Int))) (b := (v : Int)) (g := (e - st) % n) (by omega) (by omega) (by omega)
      have q2 := fSt_i (a := -(n - 1 - (v : Int))) (b := (v : Int)) (g := (e - st) % n - n) (by omega) (by omega) (by omega)
      have q3 := fSt_i (a := -(n - 1 - (v : Int))) (b := fUp L n st v) (g := (e - st) % n) (by omega) (by omega) (by omega)
      have q4 := fSt_i (a := -(n - 1 - (v : Int))) (b := fUp L n st v) (g := (e - st) % n - n) (by omega) (by omega) (by omega)
      have gv : fUp L n st (v + 1) = if 0 < fAt L ((st + (v : Int)) % n) then (v : Int) else fUp L n st v := rfl
      have gz : fBest L n st ((e - st) % n) (v + 1) = min (fBest L n st ((e - st) % n) v) (min (fSt (-(n - 1 - (v : Int))) (fUp L n st (v + 1)) ((e - st) % n)) (fSt (-(n - 1 - (v : Int))) (fUp L n st (v + 1)) ((e - st) % n - n))) := rfl
      refine je_ps jb_X8_tourFrom 2 (pc' := 63) (ls' := [_, _, _, _, _, _, _, _, _, _]) (st' := [_, _]) rfl ?_
      refine je_icmpge jb_X8_tourFrom rfl (t := 137) rfl (pc' := 66) rfl (by first | omega | exact (hM _ _).1 | exact (hM _ _).2) (by first | omega | exact (hM _ _).1 | exact (hM _ _).2) (by first | omega | exact (hM _ _).1 | exact (hM _ _).2) (by first | omega | exact (hM _ _).1 | exact (hM _ _).2) (fun c63 => ?_) (fun c63 => ?_)
      · first | (exfalso; omega) | (cases c63; done) | (exfalso; simp_all; done)
      · refine je_ps jb_X8_tourFrom 3 (pc' := 70) (ls' := [_, _, _, _, _, _, _, _, _, _]) (st' := [_, _, _]) rfl ?_
        refine je_iadd jb_X8_tourFrom rfl (pc' := 71) rfl ?_
        refine je_ps jb_X8_tourFrom 1 (pc' := 72) (ls' := [_, _, _, _, _, _, _, _, _, _]) (st' := [_, _, _]) rfl ?_
        refine je_csP' jb_X8_tourFrom rfl (pc' := 75) rfl (by rfl) (by first | decide | exact Nat.ble_eq_true_of_le (by omega)) (c_X11_around (by omega) (by omega) (by omega) (by omega)) (st' := [_, _]) rfl ?_
        refine je_cvP' jb_X8_tourFrom rfl (pc' := 78) rfl (by first | exact jh_V hi g | exact jh_V hi (g0.R37 hi _) | exact jh_walk hi) (by rfl) (by first | decide | exact Nat.ble_eq_true_of_le (by omega)) (k_at hi g (by omega)) (st' := [_]) rfl ?_
        refine je_ifle jb_X8_tourFrom rfl (t := 85) rfl (pc' := 81) rfl (by first | omega | exact (hM _ _).1 | exact (hM _ _).2) (by first | omega | exact (hM _ _).1 | exact (hM _ _).2) (fun c78 => ?_) (fun c78 => ?_)
        · refine je_ps jb_X8_tourFrom 2 (pc' := 87) (ls' := [_, _, _, _, _, _, _, _, _, _]) (st' := [_, _]) rfl ?_
          refine je_isub jb_X8_tourFrom rfl (pc' := 88) rfl ?_
          refine je_ps jb_X8_tourFrom 1 (pc' := 90) (ls' := [_, _, _, _, _, _, _, _, _, _]) (st' := [_, _]) rfl ?_
          refine je_isub jb_X8_tourFrom rfl (pc' := 91) rfl ?_
          refine je_ps jb_X8_tourFrom 2 (pc' := 95) (ls' := [_, _, _, _, _, _, _, _, _, _]) (st' := [_]) rfl ?_
          refine je_ineg jb_X8_tourFrom rfl (pc' := 96) rfl ?_
          refine je_ps jb_X8_tourFrom 2 (pc' := 99) (ls' := [_, _, _, _, _, _, _, _, _, _]) (st' := [_, _, _]) rfl ?_
          refine je_csP' jb_X8_tourFrom rfl (pc' := 102) rfl (by rfl) (by first | decide | exact Nat.ble_eq_true_of_le (by omega)) (c_X11_shorterTrip (by omega) (by omega) (by omega)) (st' := [_]) rfl ?_
          refine je_ps jb_X8_tourFrom 2 (pc' := 106) (ls' := [_, _, _, _, _, _, _, _, _, _]) (st' := [_]) rfl ?_
          refine je_ineg jb_X8_tourFrom rfl (pc' := 107) rfl ?_
          refine je_ps jb_X8_tourFrom 3 (pc' := 111) (ls' := [_, _, _, _, _, _, _, _, _, _]) (st' := [_, _, _, _]) rfl ?_
          refine je_isub jb_X8_tourFrom rfl (pc' := 112) rfl ?_
          refine je_csP' jb_X8_tourFrom rfl (pc' := 115) rfl (by rfl) (by first | decide | exact Nat.ble_eq_true_of_le (by omega)) (c_X11_shorterTrip (by omega) (by omega) (by omega)) (st' := [_]) rfl ?_
          refine je_ps jb_X8_tourFrom 4 (pc' := 123) (ls' := [_, _, _, _, _, _, _, _, _, _]) (st' := [_, _, _]) rfl ?_
          refine je_min jb_X8_tourFrom rfl (pc' := 126) rfl rfl rfl (by first | omega | exact (hM _ _).1 | exact (hM _ _).2) (by first | omega | exact (hM _ _).1 | exact (hM _ _).2) (by first | omega | exact (hM _ _).1 | exact (hM _ _).2) (by first | omega | exact (hM _ _).1 | exact (hM _ _).2) ?_
          refine je_min jb_X8_tourFrom rfl (pc' := 129) rfl rfl rfl (by first | omega | exact (hM _ _).1 | exact (hM _ _).2) (by first | omega | exact (hM _ _).1 | exact (hM _ _).2) (by first | omega | exact (hM _ _).1 | exact (hM _ _).2) (by first | omega | exact (hM _ _).1 | exact (hM _ _).2) ?_
          refine je_ps jb_X8_tourFrom 1 (pc' := 131) (ls' := [_, _, _, _, _, _, _, _, _, _]) (st' := []) rfl ?_
          refine je_iinc jb_X8_tourFrom rfl (pc' := 134) rfl rfl (ls' := [_, _, _, _, _, _, _, _, _, _]) rfl ?_
          refine je_ps jb_X8_tourFrom 1 (pc' := 60) (ls' := [_, _, _, _, _, _, _, _, _, _]) (st' := []) rfl ?_
          rw [gz, gv] at kv
          first | rw [if_pos (by omega)] at kv | rw [if_neg (by omega)] at kv
          exact kv _ _ ⟨_, _, _, rfl, rfl⟩
        · refine je_ps jb_X8_tourFrom 4 (pc' := 87) (ls' := [_, _, _, _, _, _, _, _, _, _]) (st' := [_, _]) rfl ?_
          refine je_isub jb_X8_tourFrom rfl (pc' := 88) rfl ?_
          refine je_ps jb_X8_tourFrom 1 (pc' := 90) (ls' := [_, _, _, _, _, _, _, _, _, _]) (st' := [_, _]) rfl ?_
          refine je_isub jb_X8_tourFrom rfl (pc' := 91) rfl ?_
          refine je_ps jb_X8_tourFrom 2 (pc' := 95) (ls' := [_, _, _, _, _, _, _, _, _, _]) (st' := [_]) rfl ?_
          refine je_ineg jb_X8_tourFrom rfl (pc' := 96) rfl ?_
          refine je_ps jb_X8_tourFrom 2 (pc' := 99) (ls' := [_, _, _, _, _, _, _, _, _, _]) (st' := [_, _, _]) rfl ?_
          refine je_csP' jb_X8_tourFrom rfl (pc' := 102) rfl (by rfl) (by first | decide | exact Nat.ble_eq_true_of_le (by omega)) (c_X11_shorterTrip (by omega) (by omega) (by omega)) (st' := [_]) rfl ?_
          refine je_ps jb_X8_tourFrom 2 (pc' := 106) (ls' := [_, _, _, _, _, _, _, _, _, _]) (st' := [_]) rfl ?_
          refine je_ineg jb_X8_tourFrom rfl (pc' := 107) rfl ?_
          refine je_ps jb_X8_tourFrom 3 (pc' := 111) (ls' := [_, _, _, _, _, _, _, _, _, _]) (st' := [_, _, _, _]) rfl ?_
          refine je_isub jb_X8_tourFrom rfl (pc' := 112) rfl ?_
          refine je_csP' jb_X8_tourFrom rfl (pc' := 115) rfl (by rfl) (by first | decide | exact Nat.ble_eq_true_of_le (by omega)) (c_X11_shorterTrip (by omega) (by omega) (by omega)) (st' := [_]) rfl ?_
          refine je_ps jb_X8_tourFrom 4 (pc' := 123) (ls' := [_, _, _, _, _, _, _, _, _, _]) (st' := [_, _, _]) rfl ?_
          refine je_min jb_X8_tourFrom rfl (pc' := 126) rfl rfl rfl (by first | omega | exact (hM _ _).1 | exact (hM _ _).2) (by first | omega | exact (hM _ _).1 | exact (hM _ _).2) (by first | omega | exact (hM _ _).1 | exact (hM _ _).2) (by first | omega | exact (hM _ _).1 | exact (hM _ _).2) ?_
          refine je_min jb_X8_tourFrom rfl (pc' := 129) rfl rfl rfl (by first | omega | exact (hM _ _).1 | exact (hM _ _).2) (by first | omega | exact (hM _ _).1 | exact (hM _ _).2) (by first | omega | exact (hM _ _).1 | exact (hM _ _).2) (by first | omega | exact (hM _ _).1 | exact (hM _ _).2) ?_
          refine je_ps jb_X8_tourFrom 1 (pc' := 131) (ls' := [_, _, _, _, _, _, _, _, _, _]) (st' := []) rfl ?_
          refine je_iinc jb_X8_tourFrom rfl (pc' := 134) rfl rfl (ls' := [_, _, _, _, _, _, _, _, _, _]) rfl ?_
          refine je_ps jb_X8_tourFrom 1 (pc' := 60) (ls' := [_, _, _, _, _, _, _, _, _, _]) (st' := []) rfl ?_
          rw [gz, gv] at kv
          first | rw [if_pos (by omega)] at kv | rw [if_neg (by omega)] at kv
          exact kv _ _ ⟨_, _, _, rfl, rfl⟩
    · obtain ⟨x, y, z, rfl, rfl⟩ := gv
      refine je_ps jb_X8_tourFrom 2 (pc' := 63) (ls' := [_, _, _, _, _, _, _, _, _, _]) (st' := [_, _]) rfl ?_
      refine je_icmpge jb_X8_tourFrom rfl (t := 137) rfl (pc' := 66) rfl (by first | omega | exact (hM _ _).1 | exact (hM _ _).2) (by first | omega | exact (hM _ _).1 | exact (hM _ _).2) (by first | omega | exact (hM _ _).1 | exact (hM _ _).2) (by first | omega | exact (hM _ _).1 | exact (hM _ _).2) (fun c63 => ?_) (fun c63 => ?_)
      · refine je_ps jb_X8_tourFrom 1 (pc' := 139) (ls' := [_, _, _, _, _, _, _, _, _, _]) (st' := [_]) rfl ?_
        exact je_ret jb_X8_tourFrom rfl (by rfl) ⟨jv_I (by unfold fTour; rw [if_neg (of_decide_eq_false c7)]), rfl⟩
      · first | (exfalso; omega) | (cases c63; done) | (exfalso; simp_all; done)
  · refine je_ps jb_X8_tourFrom 2 (pc' := 12) (ls' := [_, _, _, _, _, _, _, _, _, _]) (st' := [_, _]) rfl ?_
    refine je_cvP' jb_X8_tourFrom rfl (pc' := 15) rfl (by first | exact jh_V hi g | exact jh_V hi (g0.R37 hi _) | exact jh_walk hi) (by rfl) (by first | decide | exact Nat.ble_eq_true_of_le (by omega)) (k_lowFrom hi g (by omega)) (st' := [_]) rfl ?_
    refine je_ps jb_X8_tourFrom 2 (pc' := 17) (ls' := [_, _, _, _, _, _, _, _, _, _]) (st' := [_, _, _]) rfl ?_
    refine je_cvP' jb_X8_tourFrom rfl (pc' := 20) rfl (by first | exact jh_V hi g | exact jh_V hi (g0.R37 hi _) | exact jh_walk hi) (by rfl) (by first | decide | exact Nat.ble_eq_true_of_le (by omega)) (k_highFrom hi g (by omega)) (st' := [_, _]) rfl ?_
    refine je_ps jb_X8_tourFrom 1 (pc' := 21) (ls' := [_, _, _, _, _, _, _, _, _, _]) (st' := [_, _, _]) rfl ?_
    refine je_get jb_X8_tourFrom rfl (pc' := 24) rfl (by first | exact jh_V hi g | exact jh_V hi (g0.R37 hi _) | exact jh_walk hi) (by rfl) (by rfl) ?_
    refine je_ps jb_X8_tourFrom 1 (pc' := 25) (ls' := [_, _, _, _, _, _, _, _, _, _]) (st' := [_, _, _, _]) rfl ?_
    refine je_isub jb_X8_tourFrom rfl (pc' := 26) rfl ?_
    refine je_csP' jb_X8_tourFrom rfl (pc' := 29) rfl (by rfl) (by first | decide | exact Nat.ble_eq_true_of_le (by omega)) (c_X11_shorterTrip (by omega) (by omega) (by omega)) (st' := [_]) rfl ?_
    exact je_ret jb_X8_tourFrom rfl (by rfl) ⟨jv_I (by unfold fTour; rw [if_pos (of_decide_eq_true c7)]), rfl⟩
theorem fTn_i {n k : Int} {L : Int → Int} (h : fL n k L) (hk : k ≤ 5) : 0 ≤ fTn k L ∧ fTn k L ≤ 125 := by
  have := fSum_b (f := fun p => min (L p) (k - L p)) (B := 5) (fun p => by have := h.1 p; show 0 ≤ min (L p) (k - L p) ∧ min (L p) (k - L p) ≤ 5; omega) 25
  unfold fTn
  omega
theorem k_length {i : Nat} (hi : i < 13) {s n k e : Int} {L : Int → Int} (g : jWk m i s n k L e) : jq sc 4 jm_X8_length [.ref (jwa i)] (jh m r T) (jP (some (.int (jI (fLen s n k L e)))) (jh m r T)) := by
  have gc := fC_i g.1.2 g.2.2.2.2
  have gk : 2 ≤ k ∧ k ≤ 5 := g.1.2.2
  have h1 := fTn_i g.2.2.2.1 (by omega)
  refine je_in jb_X8_length rfl (ls := [_]) rfl ?_
  refine je_ps jb_X8_length 1 (pc' := 1) (ls' := [_]) (st' := [_]) rfl ?_
  refine je_cvP' jb_X8_length rfl (pc' := 4) rfl (by first | exact jh_V hi g | exact jh_V hi (g0.R37 hi _) | exact jh_walk hi) (by rfl) (by first | decide | exact Nat.ble_eq_true_of_le (by omega)) (k_turns hi g) (st' := [_]) rfl ?_
  refine je_ps jb_X8_length 2 (pc' := 6) (ls' := [_]) (st' := [_, _, _]) rfl ?_
  refine je_cvP' jb_X8_length rfl (pc' := 9) rfl (by first | exact jh_V hi g | exact jh_V hi (g0.R37 hi _) | exact jh_walk hi) (by rfl) (by first | decide | exact Nat.ble_eq_true_of_le (by omega)) (k_tourFrom hi g (by omega)) (st' := [_, _]) rfl ?_
  refine je_iadd jb_X8_length rfl (pc' := 10) rfl ?_
  exact je_ret jb_X8_length rfl (by rfl) ⟨by (first | rfl | (refine jv_t ?_; simp only [decide_eq_true_eq]; omega) | (refine jv_f ?_; simp only [decide_eq_false_iff_not]; omega) | (refine jv_I ?_; omega)), by (first | rfl | (refine jv_t ?_; simp only [decide_eq_true_eq]; omega) | (refine jv_f ?_; simp only [decide_eq_false_iff_not]; omega) | (refine jv_I ?_; omega))⟩
end C16
