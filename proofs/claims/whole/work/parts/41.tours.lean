/-! TOURS, told by how far one goes down and up -/
section C41
/-- from st one goes down by lo, up by hi, and stands at g in the end: all lit corners are come by, the end is e -/
def Tri (s n : Int) (L : Int → Int) (st e lo hi g : Int) : Prop := (0 ≤ lo ∧ 0 ≤ hi ∧ -lo ≤ g ∧ g ≤ hi) ∧ fRd s n (st + g) = e ∧ ∀ p : Int, 0 ≤ p → p < n → 0 < L p → ∃ t, -lo ≤ t ∧ t ≤ hi ∧ fRd s n (st + t) = fLo s + p
theorem fSt_le {d u lo hi g : Int} (hd : 0 ≤ d) (hd2 : d ≤ lo) (hu : 0 ≤ u) (hu2 : u ≤ hi) (h1 : -lo ≤ g) (h2 : g ≤ hi) : fSt (-d) u g ≤ 2 * lo + 2 * hi - jabs g := by
  unfold fSt fTrip
  have h0 := jabs_c g
  have h3 := jabs_c (-d)
  have h4 := jabs_c u
  have h5 := jabs_c (u - -d)
  have h6 := jabs_c (-d - u)
  have h7 := jabs_c (g - u)
  have h8 := jabs_c (g - -d)
  have h9 := jabs_c (u - u)
  have ha := jabs_c (-d - -d)
  by_cases q : u = 0
  · rw [if_pos q]
    by_cases q2 : -d = 0
    · rw [if_pos q2]
      omega
    · rw [if_neg q2]
      omega
  · rw [if_neg q]
    by_cases q2 : -d = 0
    · rw [if_pos q2]
      omega
    · rw [if_neg q2]
      omega
theorem fSt_ge {d u g : Int} (hd : 0 ≤ d) (hu : 0 ≤ u) : 2 * max d (-g) + 2 * max u g - jabs g ≤ fSt (-d) u g := by
  unfold fSt fTrip
  have h0 := jabs_c g
  have h3 := jabs_c (-d)
  have h4 := jabs_c u
  have h5 := jabs_c (u - -d)
  have h6 := jabs_c (-d - u)
  have h7 := jabs_c (g - u)
  have h8 := jabs_c (g - -d)
  have h9 := jabs_c (u - u)
  have ha := jabs_c (-d - -d)
  by_cases q : u = 0
  · rw [if_pos q]
    by_cases q2 : -d = 0
    · rw [if_pos q2]
      omega
    · rw [if_neg q2]
      omega
  · rw [if_neg q]
    by_cases q2 : -d = 0
    · rw [if_pos q2]
      omega
    · rw [if_neg q2]
      omega
theorem fLow_ge {s st b : Int} {L : Int → Int} (hb : b ≤ 0) : ∀ v : Nat, (∀ p : Nat, p < v → 0 < L (p : Int) → b ≤ fLo s + (p : Int) - st) → b ≤ fLow s L st v
  | 0, _ => hb
  | v + 1, h => by
    have q := fLow_ge (s := s) (st := st) (L := L) hb v (fun p hp => h p (by omega))
    have q2 := h v (by omega)
    unfold fLow
    split
    · rename_i h3
      have := q2 h3
      omega
    · exact q
theorem fLow_le {s st : Int} {L : Int → Int} {p : Nat} (hp : 0 < L (p : Int)) : ∀ v : Nat, p < v → fLow s L st v ≤ fLo s + (p : Int) - st
  | 0, h => by omega
  | v + 1, h => by
    unfold fLow
    by_cases e : p = v
    · subst e
      rw [if_pos hp]
      omega
    · have q := fLow_le (s := s) (st := st) hp v (by omega)
      split <;> omega
theorem fHigh_le {s st b : Int} {L : Int → Int} (hb : 0 ≤ b) : ∀ v : Nat, (∀ p : Nat, p < v → 0 < L (p : Int) → fLo s + (p : Int) - st ≤ b) → fHigh s L st v ≤ b
  | 0, _ => hb
  | v + 1, h => by
    have q := fHigh_le (s := s) (st := st) (L := L) hb v (fun p hp => h p (by omega))
    have q2 := h v (by omega)
    unfold fHigh
    split
    · rename_i h3
      have := q2 h3
      omega
    · exact q
theorem fHigh_ge {s st : Int} {L : Int → Int} {p : Nat} (hp : 0 < L (p : Int)) : ∀ v : Nat, p < v → fLo s + (p : Int) - st ≤ fHigh s L st v
  | 0, h => by omega
  | v + 1, h => by
    unfold fHigh
    by_cases e : p = v
    · subst e
      rw [if_pos hp]
      omega
    · have q := fHigh_ge (s := s) (st := st) hp v (by omega)
      split <;> omega
theorem fUp_le {L : Int → Int} {n st b : Int} (hb : 0 ≤ b) : ∀ v : Nat, (∀ t : Nat, t < v → 0 < fAt L ((st + (t : Int)) % n) → (t : Int) ≤ b) → fUp L n st v ≤ b
  | 0, _ => hb
  | v + 1, h => by
    have q := fUp_le (L := L) (n := n) (st := st) hb v (fun t ht => h t (by omega))
    have q2 := h v (by omega)
    unfold fUp
    split
    · rename_i h3
      exact q2 h3
    · exact q
theorem fUp_ge {L : Int → Int} {n st : Int} {t : Nat} (ht : 0 < fAt L ((st + (t : Int)) % n)) : ∀ v : Nat, t < v → (t : Int) ≤ fUp L n st v
  | 0, h => by omega
  | v + 1, h => by
    unfold fUp
    by_cases e : t = v
    · subst e
      rw [if_pos ht]
      omega
    · have q := fUp_ge ht v (by omega)
      split <;> omega
theorem fBest_le {L : Int → Int} {n st goal : Int} {far : Nat} : ∀ v : Nat, far < v → fBest L n st goal v ≤ fSt (-(n - 1 - (far : Int))) (fUp L n st (far + 1)) goal ∧ fBest L n st goal v ≤ fSt (-(n - 1 - (far : Int))) (fUp L n st (far + 1)) (goal - n)
  | 0, h => by omega
  | v + 1, h => by
    have e0 : fBest L n st goal (v + 1) = min (fBest L n st goal v) (min (fSt (-(n - 1 - (v : Int))) (fUp L n st (v + 1)) goal) (fSt (-(n - 1 - (v : Int))) (fUp L n st (v + 1)) (goal - n))) := rfl
    by_cases e : far = v
    · subst e
      omega
    · have q := fBest_le (L := L) (n := n) (st := st) (goal := goal) (far := far) v (by omega)
      omega
theorem fTrip_lo {a b g : Int} (ha : -100 ≤ a ∧ a ≤ 100) (hb : -100 ≤ b ∧ b ≤ 100) (hg : -100 ≤ g ∧ g ≤ 100) : fTrip a b g ≤ 1000 := by
  unfold fTrip
  have h1 := jabs_c a
  split
  · have h2 := jabs_c (a - a)
    have h3 := jabs_c (g - a)
    omega
  · have h2 := jabs_c (b - a)
    have h3 := jabs_c (g - b)
    omega
theorem fSt_lo {a b g : Int} (ha : -100 ≤ a ∧ a ≤ 100) (hb : -100 ≤ b ∧ b ≤ 100) (hg : -100 ≤ g ∧ g ≤ 100) : fSt a b g ≤ 1000 := by
  have h1 := fTrip_lo ha hb hg
  unfold fSt
  omega
theorem fBest_at {L : Int → Int} {n st goal : Int} (hn : 3 ≤ n ∧ n ≤ 8) (hg : 0 ≤ goal ∧ goal < n) : ∀ v : Nat, 0 < v → v ≤ 8 → ∃ far : Nat, ∃ G : Int, far < v ∧ (G = goal ∨ G = goal - n) ∧ fSt (-(n - 1 - (far : Int))) (fUp L n st (far + 1)) G ≤ fBest L n st goal v
  | 0, h, _ => by omega
  | v + 1, h, h8 => by
    have e0 : fBest L n st goal (v + 1) = min (fBest L n st goal v) (min (fSt (-(n - 1 - (v : Int))) (fUp L n st (v + 1)) goal) (fSt (-(n - 1 - (v : Int))) (fUp L n st (v + 1)) (goal - n))) := rfl
    have u := fUp_i L n st (v + 1)
    have h1 := fSt_i (a := -(n - 1 - (v : Int))) (b := fUp L n st (v + 1)) (g := goal) (by omega) (by omega) (by omega)
    have h2 := fSt_lo (a := -(n - 1 - (v : Int))) (b := fUp L n st (v + 1)) (g := goal) (by omega) (by omega) (by omega)
    have hb : fBest L n st goal (v + 1) = fBest L n st goal v ∨ fBest L n st goal (v + 1) = fSt (-(n - 1 - (v : Int))) (fUp L n st (v + 1)) goal ∨ fBest L n st goal (v + 1) = fSt (-(n - 1 - (v : Int))) (fUp L n st (v + 1)) (goal - n) := by omega
    rcases hb with hb | hb | hb
    · by_cases hv : v = 0
      · subst hv
        have e1 : fBest L n st goal 0 = 1000 := rfl
        exact ⟨0, goal, by omega, Or.inl rfl, by omega⟩
      · obtain ⟨far, G, q1, q2, q3⟩ := fBest_at (L := L) (st := st) hn hg v (by omega) (by omega)
        exact ⟨far, G, by omega, q2, by omega⟩
    · exact ⟨v, goal, by omega, Or.inl rfl, by omega⟩
    · exact ⟨v, goal - n, by omega, Or.inr rfl, by omega⟩
/-- a rest told: what is over is so many rounds -/
theorem rest_eq {n a b : Int} (h : a % n = b % n) : ∃ z : Int, a = b + n * z := by
  refine ⟨a / n - b / n, ?_⟩
  have h1 := Int.emod_add_mul_ediv a n
  have h2 := Int.emod_add_mul_ediv b n
  rw [Int.mul_sub]
  omega
theorem ring_small {n z : Int} (hn : 3 ≤ n ∧ n ≤ 8) : z = 0 ∨ z = -1 ∨ (1 ≤ z ∧ n ≤ n * z) ∨ (z ≤ -2 ∧ n * z ≤ -2 * n) := by
  rcases (by omega : z = 0 ∨ z = -1 ∨ 1 ≤ z ∨ z ≤ -2) with h | h | h | h
  · exact Or.inl h
  · exact Or.inr (Or.inl h)
  · refine Or.inr (Or.inr (Or.inl ⟨h, ?_⟩))
    rcases (by omega : n = 3 ∨ n = 4 ∨ n = 5 ∨ n = 6 ∨ n = 7 ∨ n = 8) with e | e | e | e | e | e <;> subst e <;> omega
  · refine Or.inr (Or.inr (Or.inr ⟨h, ?_⟩))
    rcases (by omega : n = 3 ∨ n = 4 ∨ n = 5 ∨ n = 6 ∨ n = 7 ∨ n = 8) with e | e | e | e | e | e <;> subst e <;> omega
theorem fRd_1 (n x : Int) : fRd 1 n x = x % n := rfl
theorem fRd_0 (n x : Int) : fRd 0 n x = x := rfl
theorem tour_up_ring {n k e st lo hi g : Int} {L : Int → Int} (h : fS 1 n k) (hL : fL n k L) (he : fC 1 n e) (hs : fC 1 n st) (T : Tri 1 n L st e lo hi g) : fTour 1 n L e st ≤ 2 * lo + 2 * hi - jabs g := by
  have gs := h
  unfold fS at gs
  have hn : 3 ≤ n ∧ n ≤ 8 := by omega
  unfold fC at he hs
  rw [show fLo 1 = 0 from rfl] at he hs
  obtain ⟨⟨t1, t2, t3, t4⟩, t5, t6⟩ := T
  rw [fRd_1] at t5
  unfold fTour
  rw [if_neg (by decide)]
  have j1 := jabs_c g
  have g0 := Int.emod_nonneg (e - st) (show n ≠ 0 by omega)
  have g1 := Int.emod_lt_of_pos (e - st) (show 0 < n by omega)
  have hz : g % n = ((e - st) % n) % n := by
    rw [Int.emod_emod, ← t5, Int.emod_sub_emod]
    congr 1
    omega
  obtain ⟨z, hz⟩ := rest_eq hz
  -- how far up and down one must go, at most
  have key : ∃ far : Nat, (far : Int) < n ∧ n - 1 - (far : Int) ≤ lo ∧ fUp L n st (far + 1) ≤ hi := by
    by_cases c : lo + hi < n - 1
    · refine ⟨(n - 1 - lo).toNat, by omega, by omega, fUp_le t2 _ (fun t ht hlit => ?_)⟩
      have p0 := Int.emod_nonneg (st + (t : Int)) (show n ≠ 0 by omega)
      have p1 := Int.emod_lt_of_pos (st + (t : Int)) (show 0 < n by omega)
      rw [fAt_in (by omega)] at hlit
      obtain ⟨t', u1, u2, u3⟩ := t6 _ p0 p1 hlit
      rw [fRd_1, show fLo 1 = 0 from rfl, Int.zero_add] at u3
      obtain ⟨y, hy⟩ := rest_eq u3
      rcases ring_small (z := y) hn with q | q | q | q
      · subst q; omega
      · subst q; omega
      · omega
      · omega
    · refine ⟨(min hi (n - 1)).toNat, by omega, by omega, ?_⟩
      have := fUp_i L n st ((min hi (n - 1)).toNat + 1)
      refine fUp_le t2 _ (fun t ht _ => by omega)
  rcases ring_small (z := z) hn with q | q | q | q
  · subst q
    have eg : g = (e - st) % n := by omega
    obtain ⟨far, f1, f2, f3⟩ := key
    have u := fUp_i L n st (far + 1)
    have b := (fBest_le (L := L) (n := n) (st := st) (goal := (e - st) % n) (far := far) n.toNat (by omega)).1
    have := fSt_le (d := n - 1 - (far : Int)) (u := fUp L n st (far + 1)) (lo := lo) (hi := hi) (g := (e - st) % n) (by omega) f2 u.1 f3 (by omega) (by omega)
    have j2 := congrArg jabs eg
    omega
  · subst q
    have eg : g = (e - st) % n - n := by omega
    obtain ⟨far, f1, f2, f3⟩ := key
    have u := fUp_i L n st (far + 1)
    have b := (fBest_le (L := L) (n := n) (st := st) (goal := (e - st) % n) (far := far) n.toNat (by omega)).2
    have := fSt_le (d := n - 1 - (far : Int)) (u := fUp L n st (far + 1)) (lo := lo) (hi := hi) (g := (e - st) % n - n) (by omega) f2 u.1 f3 (by omega) (by omega)
    have j2 := congrArg jabs eg
    omega
  · have b := (fBest_le (L := L) (n := n) (st := st) (goal := (e - st) % n) (far := 0) n.toNat (by omega)).2
    have u : fUp L n st (0 + 1) = 0 := by
      show (if 0 < fAt L ((st + ((0 : Nat) : Int)) % n) then ((0 : Nat) : Int) else 0) = 0
      split <;> rfl
    rw [u] at b
    have := fSt_le (d := n - 1) (u := 0) (lo := max (n - 1) (n - (e - st) % n)) (hi := 0) (g := (e - st) % n - n) (by omega) (by omega) (by omega) (by omega) (by omega) (by omega)
    have j2 := jabs_c ((e - st) % n - n)
    rw [show n - 1 - ((0 : Nat) : Int) = n - 1 by omega] at b
    omega
  · have b := (fBest_le (L := L) (n := n) (st := st) (goal := (e - st) % n) (far := (n - 1).toNat) n.toNat (by omega)).1
    have u := fUp_i L n st ((n - 1).toNat + 1)
    have u2 := fUp_le (L := L) (n := n) (st := st) (b := n - 1) (by omega) ((n - 1).toNat + 1) (fun t ht _ => by omega)
    have := fSt_le (d := 0) (u := fUp L n st ((n - 1).toNat + 1)) (lo := 0) (hi := n - 1) (g := (e - st) % n) (by omega) (by omega) u.1 u2 (by omega) (by omega)
    have j2 := jabs_c ((e - st) % n)
    rw [show n - 1 - (((n - 1).toNat : Nat) : Int) = 0 by omega] at b
    omega
theorem tour_up_line {n k e st lo hi g : Int} {L : Int → Int} (h : fS 0 n k) (T : Tri 0 n L st e lo hi g) (hL : fL n k L) : fTour 0 n L e st ≤ 2 * lo + 2 * hi - jabs g := by
  have gs := h
  unfold fS at gs
  have hn : n = 25 := by omega
  subst hn
  obtain ⟨⟨t1, t2, t3, t4⟩, t5, t6⟩ := T
  rw [fRd_0] at t5
  unfold fTour
  rw [if_pos rfl, show e - st = g by omega]
  have a1 : -lo ≤ fLow 0 L st 25 := fLow_ge (by omega) 25 (fun p hp hl => by
    obtain ⟨t, u1, u2, u3⟩ := t6 p (by omega) (by omega) hl
    rw [fRd_0] at u3
    omega)
  have a2 : fHigh 0 L st 25 ≤ hi := fHigh_le t2 25 (fun p hp hl => by
    obtain ⟨t, u1, u2, u3⟩ := t6 p (by omega) (by omega) hl
    rw [fRd_0] at u3
    omega)
  have b1 : fLow 0 L st 25 ≤ 0 := by
    have key : ∀ v : Nat, fLow 0 L st v ≤ 0 := by
      intro v
      induction v with
      | zero => exact Int.le_refl 0
      | succ v ih =>
        unfold fLow
        split <;> omega
    exact key 25
  have b2 : 0 ≤ fHigh 0 L st 25 := by
    have key : ∀ v : Nat, 0 ≤ fHigh 0 L st v := by
      intro v
      induction v with
      | zero => exact Int.le_refl 0
      | succ v ih =>
        unfold fHigh
        split <;> omega
    exact key 25
  have := fSt_le (d := -(fLow 0 L st 25)) (u := fHigh 0 L st 25) (lo := lo) (hi := hi) (g := g) (by omega) (by omega) b2 a2 t3 t4
  rwa [Int.neg_neg] at this
theorem tour_up {s n k e st lo hi g : Int} {L : Int → Int} (h : fS s n k) (hL : fL n k L) (he : fC s n e) (hs : fC s n st) (T : Tri s n L st e lo hi g) : fTour s n L e st ≤ 2 * lo + 2 * hi - jabs g := by
  have gs := h
  unfold fS at gs
  rcases (by omega : s = 0 ∨ s = 1) with q | q
  · subst q
    exact tour_up_line h T hL
  · subst q
    exact tour_up_ring h hL he hs T
theorem tour_at_ring {n k e st : Int} {L : Int → Int} (h : fS 1 n k) (hL : fL n k L) (he : fC 1 n e) (hs : fC 1 n st) : ∃ lo hi g : Int, Tri 1 n L st e lo hi g ∧ 2 * lo + 2 * hi - jabs g ≤ fTour 1 n L e st := by
  have gs := h
  unfold fS at gs
  have hn : 3 ≤ n ∧ n ≤ 8 := by omega
  unfold fC at he hs
  rw [show fLo 1 = 0 from rfl] at he hs
  have g0 := Int.emod_nonneg (e - st) (show n ≠ 0 by omega)
  have g1 := Int.emod_lt_of_pos (e - st) (show 0 < n by omega)
  obtain ⟨far, G, q1, q2, q3⟩ := fBest_at (L := L) (st := st) hn ⟨g0, g1⟩ n.toNat (by omega) (by omega)
  have u := fUp_i L n st (far + 1)
  have hG := fSt_ge (d := n - 1 - (far : Int)) (u := fUp L n st (far + 1)) (g := G) (by omega) u.1
  refine ⟨max (n - 1 - (far : Int)) (-G), max (fUp L n st (far + 1)) G, G, ⟨⟨by omega, by omega, by omega, by omega⟩, ?_, ?_⟩, ?_⟩
  · rw [fRd_1]
    have e1 : (st + (e - st) % n) % n = e := by
      rw [Int.add_emod_emod, show st + (e - st) = e by omega, Int.emod_eq_of_lt (by omega) (by omega)]
    rcases q2 with q2 | q2
    · rw [q2, e1]
    · rw [q2, show st + ((e - st) % n - n) = (st + (e - st) % n) + n * (-1) by omega, Int.add_mul_emod_self_left, e1]
  · intro p p0 p1 hp
    have r0 := Int.emod_nonneg (p - st) (show n ≠ 0 by omega)
    have r1 := Int.emod_lt_of_pos (p - st) (show 0 < n by omega)
    have e1 : (st + (p - st) % n) % n = p := by
      rw [Int.add_emod_emod, show st + (p - st) = p by omega, Int.emod_eq_of_lt p0 p1]
    obtain ⟨t, ht⟩ := Int.eq_ofNat_of_zero_le r0
    by_cases c : t ≤ far
    · refine ⟨(t : Int), by omega, ?_, ?_⟩
      · have := fUp_ge (L := L) (n := n) (st := st) (t := t) (by rw [← ht, e1, fAt_in (by omega)]; exact hp) (far + 1) (by omega)
        omega
      · rw [fRd_1, show fLo 1 = 0 from rfl, Int.zero_add, ← ht, e1]
    · refine ⟨(t : Int) - n, by omega, by omega, ?_⟩
      rw [fRd_1, show fLo 1 = 0 from rfl, Int.zero_add, show st + ((t : Int) - n) = (st + (t : Int)) + n * (-1) by omega, Int.add_mul_emod_self_left, ← ht, e1]
  · show _ ≤ fTour 1 n L e st
    unfold fTour
    rw [if_neg (by decide)]
    omega
theorem tour_at_line {n k e st : Int} {L : Int → Int} (h : fS 0 n k) : ∃ lo hi g : Int, Tri 0 n L st e lo hi g ∧ 2 * lo + 2 * hi - jabs g ≤ fTour 0 n L e st := by
  have gs := h
  unfold fS at gs
  have hn : n = 25 := by omega
  subst hn
  have b1 : fLow 0 L st 25 ≤ 0 := by
    have key : ∀ v : Nat, fLow 0 L st v ≤ 0 := by
      intro v
      induction v with
      | zero => exact Int.le_refl 0
      | succ v ih =>
        unfold fLow
        split <;> omega
    exact key 25
  have b2 : 0 ≤ fHigh 0 L st 25 := by
    have key : ∀ v : Nat, 0 ≤ fHigh 0 L st v := by
      intro v
      induction v with
      | zero => exact Int.le_refl 0
      | succ v ih =>
        unfold fHigh
        split <;> omega
    exact key 25
  have hG := fSt_ge (d := -(fLow 0 L st 25)) (u := fHigh 0 L st 25) (g := e - st) (by omega) b2
  rw [Int.neg_neg] at hG
  refine ⟨max (-(fLow 0 L st 25)) (-(e - st)), max (fHigh 0 L st 25) (e - st), e - st, ⟨⟨by omega, by omega, by omega, by omega⟩, ?_, ?_⟩, ?_⟩
  · rw [fRd_0]
    omega
  · intro p p0 p1 hp
    obtain ⟨t, ht⟩ := Int.eq_ofNat_of_zero_le p0
    subst ht
    have a1 := fLow_le (s := 0) (st := st) hp 25 (by omega)
    have a2 := fHigh_ge (s := 0) (st := st) hp 25 (by omega)
    refine ⟨fLo 0 + (t : Int) - st, by omega, by omega, ?_⟩
    rw [fRd_0]
    omega
  · unfold fTour
    rw [if_pos rfl]
    exact hG
theorem tour_at {s n k e st : Int} {L : Int → Int} (h : fS s n k) (hL : fL n k L) (he : fC s n e) (hs : fC s n st) : ∃ lo hi g : Int, Tri s n L st e lo hi g ∧ 2 * lo + 2 * hi - jabs g ≤ fTour s n L e st := by
  have gs := h
  unfold fS at gs
  rcases (by omega : s = 0 ∨ s = 1) with q | q
  · subst q
    exact tour_at_line h
  · subst q
    exact tour_at_ring h hL he hs
end C41
