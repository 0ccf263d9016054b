/-! THE STATE, as the other side holds it; what a change keeps there -/
section C66
variable {sc : Nat × (Nat → Int32)} {m m' : Nat → Int → Int} {r : Nat → Nat → Value} {T : jx_H} {σ : jx_H}
def gK (m : Nat → Int → Int) (X : scT) : Prop := (m 45 26 = X.1.1 ∧ m 45 27 = X.1.2.1 ∧ m 45 28 = X.1.2.2) ∧ m 45 29 = (X.2.1.1 : Int) ∧ (∀ i : Nat, i < X.2.1.1 → (∀ p : Int, 0 ≤ p → p < 25 → m 58 (25 * (i : Int) + p) = (X.2.1.2 i).1 p) ∧ m 59 (i : Int) = (X.2.1.2 i).2) ∧ m 45 32 = (X.2.2.1 : Int) ∧ ∀ i : Nat, i < X.2.2.1 → m 60 (i : Int) = (X.2.2.2 i).1 ∧ m 61 (i : Int) = (X.2.2.2 i).2
def iG (A : aT) (m : Nat → Int → Int) : Prop :=
  gSt m (aS A) (aN A) (aK A) ∧ m 45 5 = (aC A : Int) ∧ (∀ i : Nat, i < aC A → gR m (i : Int) (aW A i).1 (aW A i).2) ∧ m 45 8 = (aHc A : Int) ∧ (∀ i : Nat, i < aHc A → m 49 (i : Int) = (aH A i).1 ∧ m 50 (i : Int) = (aH A i).2) ∧ (m 45 22 = (aQ A).2 ∧ ∀ p : Int, 0 ≤ p → p < (aQ A).2 → m 55 p = (aQ A).1 p) ∧ (∀ l : Nat, l < 3 → m 56 (l : Int) = (aL A l).2 ∧ ∀ p : Int, 0 ≤ p → p < (aL A l).2 → m 57 (40 * (l : Int) + p) = (aL A l).1 p) ∧ (∀ j : Int, 0 ≤ j → j < 6 → m 46 (j + 1) = aR A j) ∧ m 45 25 = jb (aTk A) ∧ (aTk A = true → gK m (aI A))
def gQ (p : Int × aT) (m : Nat → Int → Int) (r : Nat → Nat → Value) (T : jx_H) : Option Value → jx_H → Prop := fun v σ => ∃ m', v = some (.int (jI p.1)) ∧ σ = jh m' r T ∧ iG p.2 m' ∧ kC m m'
def gQl (p : Int × aT) (m : Nat → Int → Int) (r : Nat → Nat → Value) (T : jx_H) : Option Value → jx_H → Prop := fun v σ => ∃ m', v = some (.long (jL p.1)) ∧ σ = jh m' r T ∧ iG p.2 m' ∧ kC m m'
theorem kC.rfl' (m : Nat → Int → Int) : kC m m := fun _ _ => rfl
theorem kC.tr {m1 m2 : Nat → Int → Int} (h : kC m m1) (h2 : kC m1 m2) : kC m m2 := fun b hb => (h2 b hb).trans (h b hb)
theorem kC.u {m1 : Nat → Int → Int} (h : kC m m1) {a : Nat} (ha : 45 ≤ a) (f : Int → Int) : kC m (jU m1 a f) := h.tr fun b hb => jU_ne (by omega)
theorem kC.w {m1 : Nat → Int → Int} (h : kC m m1) (w : Int) (L : Int → Int) (e : Int) : kC m (gW m1 w L e) := h.tr fun b hb => gW_43 _ _ _ _ (by omega) (by omega)
theorem kC.y {m1 m2 : Nat → Int → Int} (h : kC m m1) (y : gY m1 m2) : kC m m2 := h.tr fun b hb => y.1 b (by omega) (by omega) (by omega) (by omega) (by omega) (by omega)
/-- only what is tried or reckoned or written with is otherwise -/
def gZ (m m' : Nat → Int → Int) : Prop := (∀ b : Nat, b ≠ 45 → b ≠ 47 → b ≠ 48 → b ≠ 51 → b ≠ 52 → b ≠ 53 → b ≠ 54 → m' b = m b) ∧ (∀ j : Int, ¬ (15 ≤ j ∧ j ≤ 20) → m' 45 j = m 45 j) ∧ (∀ w p : Int, w < 6 → 0 ≤ p → p < 25 → m' 47 (25 * w + p) = m 47 (25 * w + p)) ∧ ∀ w : Int, w < 6 → m' 48 w = m 48 w
theorem gY.z (h : gY m m') : gZ m m' := ⟨fun b _ q1 q2 q3 q4 q5 q6 => h.1 b q1 q2 q3 q4 q5 q6, fun j _ => by rw [h.1 45 (by decide) (by decide) (by decide) (by decide) (by decide) (by decide)], h.2.1, h.2.2⟩
theorem iG.z {A : aT} (J : iG A m) (h6 : aC A ≤ 6) (h : gZ m m') : iG A m' := by
  obtain ⟨z1, z2, z3, z4⟩ := h
  obtain ⟨j1, j2, j3, j4, j5, j6, j7, j8, j9, j10⟩ := J
  refine ⟨⟨?_, j1.2⟩, ?_, fun i hi => ?_, ?_, fun i hi => ?_, ⟨?_, fun p p0 p1 => ?_⟩, fun l hl => ?_, fun j q0 q1 => ?_, ?_, fun h => ?_⟩
  · rw [z2 1 (by omega), z2 2 (by omega), z2 3 (by omega), z2 4 (by omega)]; exact j1.1
  · rw [z2 5 (by omega)]; exact j2
  · have g := j3 i hi
    exact ⟨g.1, fun p p0 p1 => (z3 (i : Int) p (by omega) p0 p1).trans (g.2.1 p p0 p1), (z4 (i : Int) (by omega)).trans g.2.2⟩
  · rw [z2 8 (by omega)]; exact j4
  · rw [z1 49 (by decide) (by decide) (by decide) (by decide) (by decide) (by decide) (by decide), z1 50 (by decide) (by decide) (by decide) (by decide) (by decide) (by decide) (by decide)]; exact j5 i hi
  · rw [z2 22 (by omega)]; exact j6.1
  · rw [z1 55 (by decide) (by decide) (by decide) (by decide) (by decide) (by decide) (by decide)]; exact j6.2 p p0 p1
  · rw [z1 56 (by decide) (by decide) (by decide) (by decide) (by decide) (by decide) (by decide), z1 57 (by decide) (by decide) (by decide) (by decide) (by decide) (by decide) (by decide)]; exact j7 l hl
  · rw [z1 46 (by decide) (by decide) (by decide) (by decide) (by decide) (by decide) (by decide)]; exact j8 j q0 q1
  · rw [z2 25 (by omega)]; exact j9
  · have k := j10 h
    unfold gK at *
    rw [z2 26 (by omega), z2 27 (by omega), z2 28 (by omega), z2 29 (by omega), z2 32 (by omega), z1 58 (by decide) (by decide) (by decide) (by decide) (by decide) (by decide) (by decide), z1 59 (by decide) (by decide) (by decide) (by decide) (by decide) (by decide) (by decide), z1 60 (by decide) (by decide) (by decide) (by decide) (by decide) (by decide) (by decide), z1 61 (by decide) (by decide) (by decide) (by decide) (by decide) (by decide) (by decide)]
    exact k
theorem iG.y {A : aT} (J : iG A m) (h6 : aC A ≤ 6) (h : gY m m') : iG A m' := J.z h6 h.z
theorem iG.ref {A : aT} (J : iG A m) {x : Int} (hx : -6 ≤ x ∧ x ≤ -1) : iG (aRef A x).2 (jU m 46 (ju (m 46) (-x) (m 46 (-x) + 1))) := by
  obtain ⟨j1, j2, j3, j4, j5, j6, j7, j8, j9, j10⟩ := J
  have hne : ∀ b, b ≠ 46 → jU m 46 (ju (m 46) (-x) (m 46 (-x) + 1)) b = m b := fun b hb => jU_ne hb
  refine ⟨?_, ?_, ?_, ?_, ?_, ?_, ?_, fun j q0 q1 => ?_, ?_, fun h => ?_⟩
  · unfold gSt at *; rw [hne 45 (by decide)]; exact j1
  · rw [hne 45 (by decide)]; exact j2
  · intro i hi
    have g := j3 i hi
    unfold gR at *; rw [hne 47 (by decide), hne 48 (by decide)]; exact g
  · rw [hne 45 (by decide)]; exact j4
  · rw [hne 49 (by decide), hne 50 (by decide)]; exact j5
  · rw [hne 45 (by decide), hne 55 (by decide)]; exact j6
  · rw [hne 56 (by decide), hne 57 (by decide)]; exact j7
  · rw [jU_same]
    have q := j8 j q0 q1
    have q2 := j8 (-1 - x) (by omega) (by omega)
    show ju (m 46) (-x) (m 46 (-x) + 1) (j + 1) = ju A.2.2.2.2 (-1 - x) (A.2.2.2.2 (-1 - x) + 1) j
    unfold ju
    by_cases c : j = -1 - x
    · rw [if_pos (by omega), if_pos c]
      rw [show -1 - x + 1 = -x by omega] at q2
      rw [q2]
      rfl
    · rw [if_neg (by omega), if_neg c]
      exact q
  · rw [hne 45 (by decide)]; exact j9
  · have k := j10 h
    unfold gK at *
    rw [hne 45 (by decide), hne 58 (by decide), hne 59 (by decide), hne 60 (by decide), hne 61 (by decide)]
    exact k
theorem iG.st {A : aT} (J : iG A m) : gSt m (aS A) (aN A) (aK A) := J.1
theorem iG.c {A : aT} (J : iG A m) : m 45 5 = (aC A : Int) := J.2.1
theorem iG.hc {A : aT} (J : iG A m) : m 45 8 = (aHc A : Int) := J.2.2.2.1
theorem iG.wk {A : aT} (J : iG A m) (O : aOk A) {x : Int} (h : 0 ≤ x ∧ x < (aC A : Int)) : gWk m x (aS A) (aN A) (aK A) (aW A x.toNat).1 (aW A x.toNat).2 := by
  have g := J.2.2.1 x.toNat (by omega)
  have w := O.1.2.2.1 x.toNat (show x.toNat < aC A by omega)
  rw [show ((x.toNat : Nat) : Int) = x by omega] at g
  exact g.k J.1 w.1 w.2.1
theorem aOk.c6 {A : aT} (O : aOk A) : aC A ≤ 6 := O.1.2.1
theorem aOk.h4 {A : aT} (O : aOk A) : aHc A ≤ 4 := O.1.2.2.2.1
theorem aOk.fs {A : aT} (O : aOk A) : fS (aS A) (aN A) (aK A) := O.1.1
theorem aOk.wo {A : aT} (O : aOk A) {i : Nat} (hi : i < aC A) : wOkk (aS A) (aN A) (aK A) (aW A i) := O.1.2.2.1 i hi
theorem aOk.ho {A : aT} (O : aOk A) {i : Nat} (hi : i < aHc A) : (0 ≤ (aH A i).1 ∧ (aH A i).1 ≤ 5) ∧ 0 ≤ (aH A i).2 ∧ (aH A i).2 ≤ 9 := O.1.2.2.2.2 i hi
/-- fields told anew that no other side of the state shows -/
theorem iG.f43 {A A' : aT} (J : iG A m) {f : Int → Int} (hA : A'.2 = A.2) (h1 : f 1 = aS A' ∧ f 2 = aN A' ∧ f 3 = fLo (aS A') ∧ f 4 = aK A') (hfs : fS (aS A') (aN A') (aK A')) (h5 : f 5 = (aC A' : Int)) (hW : ∀ i : Nat, i < aC A' → gR m (i : Int) (aW A' i).1 (aW A' i).2) (h8 : f 8 = (aHc A' : Int)) (hH : ∀ i : Nat, i < aHc A' → m 49 (i : Int) = (aH A' i).1 ∧ m 50 (i : Int) = (aH A' i).2) (ho : ∀ j : Int, j ≠ 1 → j ≠ 2 → j ≠ 3 → j ≠ 4 → j ≠ 5 → j ≠ 8 → f j = m 45 j) : iG A' (jU m 45 f) := by
  have hne : ∀ b, b ≠ 45 → jU m 45 f b = m b := fun b hb => jU_ne hb
  obtain ⟨X, R⟩ := A'
  subst hA
  obtain ⟨j1, j2, j3, j4, j5, j6, j7, j8, j9, j10⟩ := J
  refine ⟨⟨?_, hfs⟩, ?_, ?_, ?_, ?_, ?_, ?_, ?_, ?_, fun h => ?_⟩
  · rw [jU_same]; exact h1
  · rw [jU_same]; exact h5
  · intro i hi
    have g := hW i hi
    unfold gR at *; rw [hne 47 (by decide), hne 48 (by decide)]; exact g
  · rw [jU_same]; exact h8
  · rw [hne 49 (by decide), hne 50 (by decide)]; exact hH
  · rw [jU_same, ho 22 (by decide) (by decide) (by decide) (by decide) (by decide) (by decide), hne 55 (by decide)]; exact j6
  · rw [hne 56 (by decide), hne 57 (by decide)]; exact j7
  · rw [hne 46 (by decide)]; exact j8
  · rw [jU_same, ho 25 (by decide) (by decide) (by decide) (by decide) (by decide) (by decide)]; exact j9
  · have k := j10 h
    unfold gK at *
    rw [jU_same, ho 26 (by decide) (by decide) (by decide) (by decide) (by decide) (by decide), ho 27 (by decide) (by decide) (by decide) (by decide) (by decide) (by decide), ho 28 (by decide) (by decide) (by decide) (by decide) (by decide) (by decide), ho 29 (by decide) (by decide) (by decide) (by decide) (by decide) (by decide), ho 32 (by decide) (by decide) (by decide) (by decide) (by decide) (by decide), hne 58 (by decide), hne 59 (by decide), hne 60 (by decide), hne 61 (by decide)]
    exact k
theorem iG.rows {A : aT} (J : iG A m) (w : Int) (L : Int → Int) (e : Int) (hw : ∀ i : Nat, i < aC A → (i : Int) ≠ w) : iG A (gW m w L e) := by
  have hne : ∀ b, b ≠ 47 → b ≠ 48 → gW m w L e b = m b := fun b h1 h2 => gW_43 _ _ _ _ h1 h2
  obtain ⟨j1, j2, j3, j4, j5, j6, j7, j8, j9, j10⟩ := J
  refine ⟨j1.w w L e, ?_, fun i hi => (j3 i hi).o (hw i hi) L e, ?_, ?_, ?_, ?_, ?_, ?_, fun h => ?_⟩
  · rw [hne 45 (by decide) (by decide)]; exact j2
  · rw [hne 45 (by decide) (by decide)]; exact j4
  · rw [hne 49 (by decide) (by decide), hne 50 (by decide) (by decide)]; exact j5
  · rw [hne 45 (by decide) (by decide), hne 55 (by decide) (by decide)]; exact j6
  · rw [hne 56 (by decide) (by decide), hne 57 (by decide) (by decide)]; exact j7
  · rw [hne 46 (by decide) (by decide)]; exact j8
  · rw [hne 45 (by decide) (by decide)]; exact j9
  · have k := j10 h
    unfold gK at *
    rw [hne 45 (by decide) (by decide), hne 58 (by decide) (by decide), hne 59 (by decide) (by decide), hne 60 (by decide) (by decide), hne 61 (by decide) (by decide)]
    exact k
/-- a walk more -/
theorem iG.add {A : aT} (J : iG A m) (hc : aC A < 6) (w : wT) : iG (sAdd A w) (jU (gW m (aC A : Int) w.1 w.2) 45 (ju (m 45) 5 ((aC A : Int) + 1))) := by
  have K := J.rows (aC A : Int) w.1 w.2 (fun i hi => by omega)
  have e : ju (m 45) 5 ((aC A : Int) + 1) = ju (gW m (aC A : Int) w.1 w.2 45) 5 ((aC A : Int) + 1) := by rw [gW_43 _ _ _ _ (by decide) (by decide)]
  rw [e]
  have h1 := K.1.1
  refine K.f43 (A' := sAdd A w) rfl ?_ J.1.2 (ju_same _ _ _) (fun i hi => ?_) ?_ K.2.2.2.2.1 (fun j q1 q2 q3 q4 q5 q6 => ju_ne q5)
  · rw [ju_ne (by decide), ju_ne (by decide), ju_ne (by decide), ju_ne (by decide)]; exact h1
  · have hi : i < aC A + 1 := hi
    show gR _ (i : Int) (if i = aC A then w else A.1.2.1.2 i).1 (if i = aC A then w else A.1.2.1.2 i).2
    by_cases c : i = aC A
    · subst c
      rw [if_pos rfl]
      exact gR.w (by omega)
    · rw [if_neg c]
      exact K.2.2.1 i (by omega)
  · rw [ju_ne (by decide)]; exact K.hc
theorem iG.set {A : aT} (J : iG A m) (h6 : aC A ≤ 6) {x : Int} (h : 0 ≤ x ∧ x < (aC A : Int)) (w : wT) : iG (sWk A x.toNat w) (gW m x w.1 w.2) := by
  have hne : ∀ b, b ≠ 47 → b ≠ 48 → gW m x w.1 w.2 b = m b := fun b h1 h2 => gW_43 _ _ _ _ h1 h2
  obtain ⟨j1, j2, j3, j4, j5, j6, j7, j8, j9, j10⟩ := J
  refine ⟨j1.w x w.1 w.2, ?_, fun i hi => ?_, ?_, ?_, ?_, ?_, ?_, ?_, fun h => ?_⟩
  · rw [hne 45 (by decide) (by decide)]; exact j2
  · have hi : i < aC A := hi
    show gR _ (i : Int) (if i = x.toNat then w else A.1.2.1.2 i).1 (if i = x.toNat then w else A.1.2.1.2 i).2
    by_cases c : i = x.toNat
    · rw [if_pos c, show (i : Int) = x by omega]
      exact gR.w (by omega)
    · rw [if_neg c]
      exact (j3 i hi).o (by omega) w.1 w.2
  · rw [hne 45 (by decide) (by decide)]; exact j4
  · rw [hne 49 (by decide) (by decide), hne 50 (by decide) (by decide)]; exact j5
  · rw [hne 45 (by decide) (by decide), hne 55 (by decide) (by decide)]; exact j6
  · rw [hne 56 (by decide) (by decide), hne 57 (by decide) (by decide)]; exact j7
  · rw [hne 46 (by decide) (by decide)]; exact j8
  · rw [hne 45 (by decide) (by decide)]; exact j9
  · have k := j10 h
    unfold gK at *
    rw [hne 45 (by decide) (by decide), hne 58 (by decide) (by decide), hne 59 (by decide) (by decide), hne 60 (by decide) (by decide), hne 61 (by decide) (by decide)]
    exact k
theorem iG.drop {A : aT} (J : iG A m) {c : Nat} (hc : c ≤ aC A) {x : Int} (hx : x = c) : iG (sC A c) (jU m 45 (ju (m 45) 5 x)) := by
  subst hx
  refine J.f43 (A' := sC A c) rfl ?_ J.1.2 (ju_same _ _ _) (fun i hi => J.2.2.1 i (by have hi : i < c := hi; omega)) ?_ J.2.2.2.2.1 (fun j q1 q2 q3 q4 q5 q6 => ju_ne q5)
  · rw [ju_ne (by decide), ju_ne (by decide), ju_ne (by decide), ju_ne (by decide)]; exact J.1.1
  · rw [ju_ne (by decide)]; exact J.hc
end C66
