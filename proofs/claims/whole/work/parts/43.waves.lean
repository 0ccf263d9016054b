/-! WAVE BY WAVE: the first come to is the nearest -/
section C43
def bIn (n A : Int) (w : Nat) (b : Int) (s : (Int → Int) × (Int → Int) × Nat) : (Int → Int) × (Int → Int) × Nat :=
  if s.1 (bI n A (s.2.1 (w : Int)) b) < 0 then (ju s.1 (bI n A (s.2.1 (w : Int)) b) (s.1 (s.2.1 (w : Int)) + 1), ju s.2.1 (s.2.2 : Int) (bI n A (s.2.1 (w : Int)) b), s.2.2 + 1) else s
def bSt (n A : Int) (w : Nat) (s : (Int → Int) × (Int → Int) × Nat) : (Int → Int) × (Int → Int) × Nat := bIn n A w 1 (bIn n A w (-1) s)
def bS (n A s0 : Int) (F Q : Int → Int) : Nat → (Int → Int) × (Int → Int) × Nat
  | 0 => (ju F s0 0, ju Q 0 s0, 1)
  | w + 1 => bSt n A w (bS n A s0 F Q w)
def cN (f : Int → Int) : Nat → Nat
  | 0 => 0
  | v + 1 => cN f v + (if 0 ≤ f (v : Int) then 1 else 0)
theorem cN_le (f : Int → Int) : ∀ v, cN f v ≤ v
  | 0 => Nat.le_refl 0
  | v + 1 => by
    have q := cN_le f v
    show cN f v + (if 0 ≤ f (v : Int) then 1 else 0) ≤ v + 1
    split <;> omega
theorem cN_lt {f : Int → Int} {y : Int} (h : f y < 0) (h0 : 0 ≤ y) : ∀ v : Nat, y < v → cN f v < v
  | 0, h1 => by omega
  | v + 1, h1 => by
    have q := cN_le f v
    show cN f v + (if 0 ≤ f (v : Int) then 1 else 0) < v + 1
    by_cases e : y = v
    · subst e
      rw [if_neg (by omega)]
      omega
    · have q2 := cN_lt h h0 v (by omega)
      split <;> omega
theorem cN_far {f : Int → Int} {y x : Int} : ∀ v : Nat, (v : Int) ≤ y → cN (ju f y x) v = cN f v
  | 0, _ => rfl
  | v + 1, h => by
    show cN (ju f y x) v + (if 0 ≤ ju f y x (v : Int) then 1 else 0) = cN f v + (if 0 ≤ f (v : Int) then 1 else 0)
    rw [cN_far v (by omega), ju_ne (by omega)]
theorem cN_ju {f : Int → Int} {y x : Int} (h : f y < 0) (hx : 0 ≤ x) (h0 : 0 ≤ y) : ∀ v : Nat, y < v → cN (ju f y x) v = cN f v + 1
  | 0, h1 => by omega
  | v + 1, h1 => by
    show cN (ju f y x) v + (if 0 ≤ ju f y x (v : Int) then 1 else 0) = cN f v + (if 0 ≤ f (v : Int) then 1 else 0) + 1
    by_cases e : y = v
    · subst e
      rw [cN_far v (Int.le_refl _), ju_same, if_pos hx, if_neg (by omega)]
    · rw [cN_ju h hx h0 v (by omega), ju_ne (by omega)]
      omega
def vX (n x : Int) : Prop := 0 ≤ x ∧ x < 256 * n
theorem vX_b {n A x b : Int} (hn : 3 ≤ n ∧ n ≤ 8) (hA : 0 ≤ A ∧ A < 256) : vX n (bI n A x b) := by
  have h1 := iAnd_i (b := i2 ((x / 256 + b) % n)) hA.1
  have h2 := iOr_i (a := x % 256) (b := iAnd A (i2 ((x / 256 + b) % n))) (by omega) (by omega)
  have r0 := Int.emod_nonneg (x / 256 + b) (show n ≠ 0 by omega)
  have r1 := Int.emod_lt_of_pos (x / 256 + b) (show 0 < n by omega)
  unfold vX bI
  omega
def BI (n A s0 : Int) (w : Nat) (s : (Int → Int) × (Int → Int) × Nat) : Prop :=
  (1 ≤ s.2.2 ∧ w ≤ s.2.2 ∧ cN s.1 2048 = s.2.2) ∧ (∀ j : Nat, j < s.2.2 → vX n (s.2.1 (j : Int)) ∧ 0 ≤ s.1 (s.2.1 (j : Int))) ∧ (∀ x : Int, 0 ≤ x → x < 2048 → 0 ≤ s.1 x → ∃ j : Nat, j < s.2.2 ∧ s.2.1 (j : Int) = x) ∧ (∀ i j : Nat, i ≤ j → j < s.2.2 → s.1 (s.2.1 (i : Int)) ≤ s.1 (s.2.1 (j : Int))) ∧ (∀ j : Nat, j < s.2.2 → w < s.2.2 → s.1 (s.2.1 (j : Int)) ≤ s.1 (s.2.1 (w : Int)) + 1) ∧ (∀ j : Nat, j < w → ∀ b : Int, b = -1 ∨ b = 1 → 0 ≤ s.1 (bI n A (s.2.1 (j : Int)) b) ∧ s.1 (bI n A (s.2.1 (j : Int)) b) ≤ s.1 (s.2.1 (j : Int)) + 1) ∧ (∀ x : Int, 0 ≤ x → x < 2048 → 0 ≤ s.1 x → pR n A s0 (s.1 x).toNat x) ∧ s.1 s0 = 0 ∧ (∀ x : Int, -1 ≤ s.1 x ∨ ¬ (0 ≤ x ∧ x < 2048)) ∧ ∀ j : Nat, j < s.2.2 → s.1 (s.2.1 (j : Int)) ≤ (j : Int)
theorem bIn_ok {n A s0 b : Int} {w : Nat} {s : (Int → Int) × (Int → Int) × Nat} (hn : 3 ≤ n ∧ n ≤ 8) (hA : 0 ≤ A ∧ A < 256) (hs : vX n s0) (hb : b = -1 ∨ b = 1) (I : BI n A s0 w s) (hw : w < s.2.2) : BI n A s0 w (bIn n A w b s) ∧ (∀ x : Int, 0 ≤ s.1 x → (bIn n A w b s).1 x = s.1 x) ∧ (∀ j : Nat, j < s.2.2 → (bIn n A w b s).2.1 (j : Int) = s.2.1 (j : Int)) ∧ s.2.2 ≤ (bIn n A w b s).2.2 ∧ 0 ≤ (bIn n A w b s).1 (bI n A (s.2.1 (w : Int)) b) ∧ (bIn n A w b s).1 (bI n A (s.2.1 (w : Int)) b) ≤ s.1 (s.2.1 (w : Int)) + 1 := by
  obtain ⟨⟨i1, i2', i3⟩, i4, i5, i6, i7, i8, i9, i10, i11, i12⟩ := I
  have hv := vX_b (x := s.2.1 (w : Int)) (b := b) hn hA
  unfold bIn
  by_cases c : s.1 (bI n A (s.2.1 (w : Int)) b) < 0
  · rw [if_pos c]
    generalize hy : bI n A (s.2.1 (w : Int)) b = y at *
    have hy0 : 0 ≤ y ∧ y < 2048 := by unfold vX at hv; omega
    have fw := (i4 w hw).2
    have f0 : ∀ x : Int, 0 ≤ s.1 x → ju s.1 y (s.1 (s.2.1 (w : Int)) + 1) x = s.1 x := fun x hx => ju_ne (fun e => by subst e; omega)
    have q0 : ∀ j : Nat, j < s.2.2 → ju s.2.1 (s.2.2 : Int) y (j : Int) = s.2.1 (j : Int) := fun j hj => ju_ne (by omega)
    have fq : ∀ j : Nat, j < s.2.2 → ju s.1 y (s.1 (s.2.1 (w : Int)) + 1) (ju s.2.1 (s.2.2 : Int) y (j : Int)) = s.1 (s.2.1 (j : Int)) := fun j hj => by
      rw [q0 j hj, f0 _ (i4 j hj).2]
    have fn : ju s.1 y (s.1 (s.2.1 (w : Int)) + 1) (ju s.2.1 (s.2.2 : Int) y ((s.2.2 : Nat) : Int)) = s.1 (s.2.1 (w : Int)) + 1 := by
      rw [ju_same, ju_same]
    refine ⟨⟨⟨by show 1 ≤ s.2.2 + 1; omega, by show w ≤ s.2.2 + 1; omega, ?_⟩, ?_, ?_, ?_, ?_, ?_, ?_, ?_, ?_, ?_⟩, f0, q0, by show s.2.2 ≤ s.2.2 + 1; omega, ?_⟩
    · show cN (ju s.1 y (s.1 (s.2.1 (w : Int)) + 1)) 2048 = s.2.2 + 1
      rw [cN_ju c (by omega) hy0.1 2048 (by omega), i3]
    · intro j hj
      have hj : j < s.2.2 + 1 := hj
      by_cases e : j = s.2.2
      · subst e
        refine ⟨?_, ?_⟩
        · show vX n (ju s.2.1 (s.2.2 : Int) y ((s.2.2 : Nat) : Int))
          rw [ju_same]; exact hv
        · show 0 ≤ ju s.1 y (s.1 (s.2.1 (w : Int)) + 1) (ju s.2.1 (s.2.2 : Int) y ((s.2.2 : Nat) : Int))
          rw [fn]; omega
      · refine ⟨?_, ?_⟩
        · show vX n (ju s.2.1 (s.2.2 : Int) y (j : Int))
          rw [q0 j (by omega)]; exact (i4 j (by omega)).1
        · show 0 ≤ ju s.1 y (s.1 (s.2.1 (w : Int)) + 1) (ju s.2.1 (s.2.2 : Int) y (j : Int))
          rw [fq j (by omega)]; exact (i4 j (by omega)).2
    · intro x x0 x1 hx
      by_cases e : x = y
      · subst e
        exact ⟨s.2.2, by show s.2.2 < s.2.2 + 1; omega, ju_same _ _ _⟩
      · have hx : 0 ≤ ju s.1 y (s.1 (s.2.1 (w : Int)) + 1) x := hx
        rw [ju_ne e] at hx
        obtain ⟨j, j1, j2⟩ := i5 x x0 x1 hx
        exact ⟨j, by show j < s.2.2 + 1; omega, (q0 j j1).trans j2⟩
    · intro i j hij hj
      have hj : j < s.2.2 + 1 := hj
      show ju s.1 y (s.1 (s.2.1 (w : Int)) + 1) (ju s.2.1 (s.2.2 : Int) y (i : Int)) ≤ ju s.1 y (s.1 (s.2.1 (w : Int)) + 1) (ju s.2.1 (s.2.2 : Int) y (j : Int))
      by_cases e : j = s.2.2
      · subst e
        rw [fn]
        by_cases e2 : i = s.2.2
        · subst e2
          rw [fn]
          omega
        · rw [fq i (by omega)]
          exact i7 i (by omega) hw
      · rw [fq i (by omega), fq j (by omega)]
        exact i6 i j hij (by omega)
    · intro j hj _
      have hj : j < s.2.2 + 1 := hj
      show ju s.1 y (s.1 (s.2.1 (w : Int)) + 1) (ju s.2.1 (s.2.2 : Int) y (j : Int)) ≤ ju s.1 y (s.1 (s.2.1 (w : Int)) + 1) (ju s.2.1 (s.2.2 : Int) y (w : Int)) + 1
      rw [fq w hw]
      by_cases e : j = s.2.2
      · subst e
        rw [fn]
        omega
      · rw [fq j (by omega)]
        exact i7 j (by omega) hw
    · intro j hj b2 hb2
      show 0 ≤ ju s.1 y (s.1 (s.2.1 (w : Int)) + 1) (bI n A (ju s.2.1 (s.2.2 : Int) y (j : Int)) b2) ∧ ju s.1 y (s.1 (s.2.1 (w : Int)) + 1) (bI n A (ju s.2.1 (s.2.2 : Int) y (j : Int)) b2) ≤ ju s.1 y (s.1 (s.2.1 (w : Int)) + 1) (ju s.2.1 (s.2.2 : Int) y (j : Int)) + 1
      have r := i8 j hj b2 hb2
      rw [fq j (by omega), q0 j (by omega), f0 _ r.1]
      exact r
    · intro x x0 x1 hx
      show pR n A s0 (ju s.1 y (s.1 (s.2.1 (w : Int)) + 1) x).toNat x
      by_cases e : x = y
      · subst e
        rw [ju_same]
        have hq := (i4 w hw).1
        have r := i9 (s.2.1 (w : Int)) hq.1 (by unfold vX at hq; omega) fw
        rw [show (s.1 (s.2.1 (w : Int)) + 1).toNat = (s.1 (s.2.1 (w : Int))).toNat + 1 by omega]
        refine ⟨_, r, ?_⟩
        rcases hb with hb | hb
        · subst hb; exact Or.inl hy.symm
        · subst hb; exact Or.inr hy.symm
      · have hx : 0 ≤ ju s.1 y (s.1 (s.2.1 (w : Int)) + 1) x := hx
        rw [ju_ne e] at hx ⊢
        exact i9 x x0 x1 hx
    · show ju s.1 y (s.1 (s.2.1 (w : Int)) + 1) s0 = 0
      rw [f0 s0 (by omega)]
      exact i10
    · intro x
      show -1 ≤ ju s.1 y (s.1 (s.2.1 (w : Int)) + 1) x ∨ _
      by_cases e : x = y
      · subst e
        rw [ju_same]
        exact Or.inl (by omega)
      · rw [ju_ne e]
        exact i11 x
    · intro j hj
      have hj : j < s.2.2 + 1 := hj
      show ju s.1 y (s.1 (s.2.1 (w : Int)) + 1) (ju s.2.1 (s.2.2 : Int) y (j : Int)) ≤ (j : Int)
      by_cases e : j = s.2.2
      · subst e
        have := i12 w hw
        rw [fn]
        omega
      · rw [fq j (by omega)]
        exact i12 j (by omega)
    · show 0 ≤ ju s.1 y (s.1 (s.2.1 (w : Int)) + 1) y ∧ ju s.1 y (s.1 (s.2.1 (w : Int)) + 1) y ≤ _
      rw [ju_same]
      omega
  · rw [if_neg c]
    refine ⟨⟨⟨i1, i2', i3⟩, i4, i5, i6, i7, i8, i9, i10, i11, i12⟩, fun _ _ => rfl, fun _ _ => rfl, Nat.le_refl _, by omega, ?_⟩
    obtain ⟨j, j1, j2⟩ := i5 _ hv.1 (by unfold vX at hv; omega) (show 0 ≤ s.1 (bI n A (s.2.1 (w : Int)) b) by omega)
    rw [← j2]
    exact i7 j j1 hw
theorem bSt_ok {n A s0 : Int} {w : Nat} {s : (Int → Int) × (Int → Int) × Nat} (hn : 3 ≤ n ∧ n ≤ 8) (hA : 0 ≤ A ∧ A < 256) (hs : vX n s0) (I : BI n A s0 w s) (hw : w < s.2.2) : BI n A s0 (w + 1) (bSt n A w s) ∧ (∀ j : Nat, j < s.2.2 → (bSt n A w s).2.1 (j : Int) = s.2.1 (j : Int)) := by
  obtain ⟨I1, f1, q1, m1, n1, n2⟩ := bIn_ok hn hA hs (b := -1) (Or.inl rfl) I hw
  obtain ⟨I2, f2, q2, m2, n3, n4⟩ := bIn_ok hn hA hs (b := 1) (Or.inr rfl) I1 (by omega)
  have qw1 := q1 w hw
  have qw2 := q2 w (by omega)
  have fw := (I.2.1 w hw).2
  have fw1 := f1 _ fw
  have fw2 := f2 _ (show 0 ≤ (bIn n A w (-1) s).1 (s.2.1 (w : Int)) by omega)
  rw [qw1] at n3 n4
  have n5 := f2 _ n1
  obtain ⟨⟨i1, i2', i3⟩, i4, i5, i6, i7, i8, i9, i10, i11, i12⟩ := I2
  unfold bSt
  refine ⟨⟨⟨i1, by omega, i3⟩, i4, i5, i6, ?_, ?_, i9, i10, i11, i12⟩, fun j hj => (q2 j (by omega)).trans (q1 j hj)⟩
  · intro j hj h1
    have a1 := i7 j hj (by omega)
    have a2 := i6 w (w + 1) (by omega) h1
    omega
  · intro j hj b hb
    by_cases e : j = w
    · subst e
      rw [qw2, qw1]
      rcases hb with hb | hb
      · subst hb; omega
      · subst hb; omega
    · exact i8 j (by omega) b hb
theorem bS_0 {n A s0 : Int} {F Q : Int → Int} (hs : vX n s0) (hn : 3 ≤ n ∧ n ≤ 8) (hF : ∀ x : Int, 0 ≤ x → x < 2048 → F x = -1) : BI n A s0 0 (bS n A s0 F Q 0) := by
  have hs0 : 0 ≤ s0 ∧ s0 < 2048 := by unfold vX at hs; omega
  have c0 : ∀ v : Nat, v ≤ 2048 → cN F v = 0 := by
    intro v
    induction v with
    | zero => intro _; rfl
    | succ v ih =>
      intro h
      show cN F v + (if 0 ≤ F (v : Int) then 1 else 0) = 0
      rw [ih (by omega), hF (v : Int) (by omega) (by omega)]
      rfl
  show BI n A s0 0 (ju F s0 0, ju Q 0 s0, 1)
  have q0 : ju Q 0 s0 ((0 : Nat) : Int) = s0 := ju_same _ _ _
  refine ⟨⟨Nat.le_refl 1, Nat.zero_le _, ?_⟩, ?_, ?_, ?_, ?_, ?_, ?_, ?_, ?_, ?_⟩
  · show cN (ju F s0 0) 2048 = 1
    rw [cN_ju (by rw [hF s0 hs0.1 hs0.2]; decide) (Int.le_refl 0) hs0.1 2048 (by omega), c0 2048 (Nat.le_refl _)]
  · intro j hj
    have hj : j < 1 := hj
    have e : j = 0 := by omega
    subst e
    show vX n (ju Q 0 s0 ((0 : Nat) : Int)) ∧ 0 ≤ ju F s0 0 (ju Q 0 s0 ((0 : Nat) : Int))
    rw [q0, ju_same]
    exact ⟨hs, Int.le_refl 0⟩
  · intro x x0 x1 hx
    have hx : 0 ≤ ju F s0 0 x := hx
    by_cases e : x = s0
    · subst e
      exact ⟨0, Nat.lt_succ_self 0, q0⟩
    · rw [ju_ne e, hF x x0 x1] at hx
      exact absurd hx (by decide)
  · intro i j hij hj
    have hj : j < 1 := hj
    have e : j = 0 := by omega
    have e2 : i = 0 := by omega
    subst e; subst e2
    exact Int.le_refl _
  · intro j hj _
    have hj : j < 1 := hj
    have e : j = 0 := by omega
    subst e
    show ju F s0 0 (ju Q 0 s0 ((0 : Nat) : Int)) ≤ ju F s0 0 (ju Q 0 s0 ((0 : Nat) : Int)) + 1
    omega
  · intro j hj
    omega
  · intro x x0 x1 hx
    have hx : 0 ≤ ju F s0 0 x := hx
    show pR n A s0 (ju F s0 0 x).toNat x
    by_cases e : x = s0
    · subst e
      rw [ju_same]
      rfl
    · rw [ju_ne e, hF x x0 x1] at hx
      exact absurd hx (by decide)
  · exact ju_same _ _ _
  · intro x
    show -1 ≤ ju F s0 0 x ∨ _
    by_cases e : x = s0
    · subst e
      rw [ju_same]
      exact Or.inl (by decide)
    · rw [ju_ne e]
      by_cases h : 0 ≤ x ∧ x < 2048
      · rw [hF x h.1 h.2]
        exact Or.inl (by decide)
      · exact Or.inr h
  · intro j hj
    have hj : j < 1 := hj
    have e : j = 0 := by omega
    subst e
    show ju F s0 0 (ju Q 0 s0 ((0 : Nat) : Int)) ≤ _
    rw [q0, ju_same]
    exact Int.le_refl 0
theorem BI_cl {n A s0 : Int} {w : Nat} {s : (Int → Int) × (Int → Int) × Nat} (hn : 3 ≤ n ∧ n ≤ 8) (hA : 0 ≤ A ∧ A < 256) (hs : vX n s0) (I : BI n A s0 w s) : ∀ (i : Nat) (x : Int), pR n A s0 i x → (w = s.2.2 ∨ (w < s.2.2 ∧ (i : Int) ≤ s.1 (s.2.1 (w : Int)))) → vX n x ∧ 0 ≤ s.1 x ∧ s.1 x ≤ (i : Int)
  | 0, x, h, _ => by
    have h : x = s0 := h
    subst h
    exact ⟨hs, by rw [I.2.2.2.2.2.2.2.1]; exact ⟨Int.le_refl 0, Int.le_refl 0⟩⟩
  | i + 1, x, h, hw => by
    obtain ⟨y, hy, h⟩ := h
    obtain ⟨y1, y2, y3⟩ := BI_cl hn hA hs I i y hy (by
      rcases hw with hw | ⟨h1, h2⟩
      · exact Or.inl hw
      · exact Or.inr ⟨h1, by omega⟩)
    obtain ⟨j, j1, j2⟩ := I.2.2.1 y y1.1 (by unfold vX at y1; omega) y2
    have jw : j < w := by
      rcases hw with hw | ⟨h1, h2⟩
      · omega
      · by_cases c : j < w
        · exact c
        · have := I.2.2.2.1 w j (by omega) j1
          rw [j2] at this
          omega
    have hx : ∃ b : Int, (b = -1 ∨ b = 1) ∧ x = bI n A y b := by
      rcases h with h | h
      · exact ⟨-1, Or.inl rfl, h⟩
      · exact ⟨1, Or.inr rfl, h⟩
    obtain ⟨b, hb, hx⟩ := hx
    have r := I.2.2.2.2.2.1 j jw b hb
    rw [j2, ← hx] at r
    refine ⟨?_, r.1, by omega⟩
    rw [hx]
    exact vX_b hn hA
theorem first_not {P : Nat → Prop} : ∀ M : Nat, (∀ w, w < M → P w) ∨ ∃ N, N < M ∧ (∀ w, w < N → P w) ∧ ¬ P N
  | 0 => Or.inl fun w h => by omega
  | M + 1 => by
    rcases first_not (P := P) M with h | ⟨N, h1, h2, h3⟩
    · by_cases c : P M
      · refine Or.inl fun w hw => ?_
        by_cases e : w = M
        · subst e; exact c
        · exact h w (by omega)
      · exact Or.inr ⟨M, by omega, h, c⟩
    · exact Or.inr ⟨N, by omega, h2, h3⟩
theorem waves {n k e c : Int} {L F Q : Int → Int} (h : fS 1 n k) (hL : fL n k L) (he : fC 1 n e) (hc : fC 1 n c) (hF : ∀ x : Int, 0 ≤ x → x < 2048 → F x = -1) : ∃ N : Nat, (∀ w : Nat, w ≤ N → BI n (aM L n.toNat) (rS n (aM L n.toNat) c) w (bS n (aM L n.toNat) (rS n (aM L n.toNat) c) F Q w) ∧ w < (bS n (aM L n.toNat) (rS n (aM L n.toNat) c) F Q w).2.2) ∧ (∀ w : Nat, w < N → (bS n (aM L n.toNat) (rS n (aM L n.toNat) c) F Q w).2.1 (w : Int) ≠ 256 * e + aM L n.toNat) ∧ (bS n (aM L n.toNat) (rS n (aM L n.toNat) c) F Q N).2.1 (N : Int) = 256 * e + aM L n.toNat ∧ (bS n (aM L n.toNat) (rS n (aM L n.toNat) c) F Q N).1 (256 * e + aM L n.toNat) = fTour 1 n L e c := by
  have gs := h
  unfold fS at gs
  have hn : 3 ≤ n ∧ n ≤ 8 := by omega
  have hA := aM_i (L := L) n.toNat (by omega)
  obtain ⟨⟨i0, p1, p2⟩, p3⟩ := path_len h hL he hc
  have hc' := hc
  unfold fC at hc'
  rw [show fLo 1 = 0 from rfl] at hc'
  have hs : vX n (rS n (aM L n.toNat) c) := by
    have h1 := iAnd_i (b := i2 c) hA.1
    unfold vX rS
    omega
  generalize hG : 256 * e + aM L n.toNat = G at *
  generalize hAA : aM L n.toNat = A at *
  generalize hSS : rS n A c = s0 at *
  have ok : ∀ M : Nat, (∀ w, w < M → (w < (bS n A s0 F Q w).2.2 ∧ (bS n A s0 F Q w).2.1 (w : Int) ≠ G)) → BI n A s0 M (bS n A s0 F Q M) ∧ ∀ j : Nat, j < M → (bS n A s0 F Q M).2.1 (j : Int) ≠ G := by
    intro M
    induction M with
    | zero => exact fun _ => ⟨bS_0 hs hn hF, fun j hj => by omega⟩
    | succ M ih =>
      intro hP
      obtain ⟨I, hg⟩ := ih (fun w hw => hP w (by omega))
      have hM := hP M (by omega)
      obtain ⟨I', hq⟩ := bSt_ok hn hA hs I hM.1
      refine ⟨I', fun j hj => ?_⟩
      show (bSt n A M (bS n A s0 F Q M)).2.1 (j : Int) ≠ G
      rw [hq j (by omega)]
      by_cases e : j = M
      · subst e; exact hM.2
      · exact hg j (by omega)
  rcases first_not (P := fun w : Nat => w < (bS n A s0 F Q w).2.2 ∧ (bS n A s0 F Q w).2.1 (w : Int) ≠ G) 2049 with hall | ⟨N, h1, h2, h3⟩
  · exfalso
    obtain ⟨I, -⟩ := ok 2048 (fun w hw => hall w (by omega))
    have a1 := (hall 2048 (by omega)).1
    have a2 := I.1.2.2
    have a3 := cN_le (bS n A s0 F Q 2048).1 2048
    omega
  · obtain ⟨I, hg⟩ := ok N h2
    have hN : N < (bS n A s0 F Q N).2.2 := by
      by_cases c : N < (bS n A s0 F Q N).2.2
      · exact c
      · exfalso
        have e1 : N = (bS n A s0 F Q N).2.2 := by
          have := I.1.2.1
          omega
        obtain ⟨a1, a2, a3⟩ := BI_cl hn hA hs I i0 G p2 (Or.inl e1)
        obtain ⟨j, j1, j2⟩ := I.2.2.1 G a1.1 (by unfold vX at a1; omega) a2
        exact hg j (by omega) j2
    have hq : (bS n A s0 F Q N).2.1 (N : Int) = G := by
      by_cases c : (bS n A s0 F Q N).2.1 (N : Int) = G
      · exact c
      · exact absurd ⟨hN, c⟩ h3
    refine ⟨N, fun w hw => ?_, fun w hw => (h2 w hw).2, hq, ?_⟩
    · by_cases e : w = N
      · subst e; exact ⟨I, hN⟩
      · exact ⟨(ok w (fun v hv => h2 v (by omega))).1, (h2 w (by omega)).1⟩
    · obtain ⟨v1, v2⟩ := I.2.1 N hN
      rw [hq] at v1 v2
      have a1 := p3 _ (I.2.2.2.2.2.2.1 G v1.1 (by unfold vX at v1; omega) v2)
      have a2 : (bS n A s0 F Q N).1 G ≤ (i0 : Int) := by
        by_cases c : (bS n A s0 F Q N).1 G ≤ (i0 : Int)
        · exact c
        · exact (BI_cl hn hA hs I i0 G p2 (Or.inr ⟨hN, by rw [hq]; omega⟩)).2.2
      omega
end C43
