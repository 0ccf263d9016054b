/-! WHAT A CHANGE KEEPS, the class's side -/
section C52
variable {sc : Nat × (Nat → Int32)} {m m' : Nat → Int → Int} {r r' : Nat → Nat → Value} {T T' : jx_H} {σ : jx_H}
def sSc (A : aT) (X : scT) : aT := (X, A.2)
def sQ (A : aT) (q : wT) : aT := (A.1, A.2.1, q, A.2.2.2)
def sWk (A : aT) (i : Nat) (w : wT) : aT := sSc A (A.1.1, (A.1.2.1.1, fun j => if j = i then w else A.1.2.1.2 j), A.1.2.2)
def sAdd (A : aT) (w : wT) : aT := sSc A (A.1.1, (aC A + 1, fun j => if j = aC A then w else A.1.2.1.2 j), A.1.2.2)
def sC (A : aT) (c : Nat) : aT := sSc A (A.1.1, (c, A.1.2.1.2), A.1.2.2)
def sHe (A : aT) (q : Int × Int) : aT := sSc A (A.1.1, A.1.2.1, (aHc A + 1, fun j => if j = aHc A then q else A.1.2.2.2 j))
def sSt (A : aT) (s n k : Int) : aT := sSc A ((s, n, k), (0, A.1.2.1.2), (0, A.1.2.2.2))
def sL (A : aT) (l : Nat) (f : wT) : aT := (A.1, A.2.1, A.2.2.1, (fun j => if j = l then f else A.2.2.2.1 j), A.2.2.2.2)
def sIm (A : aT) : aT := (A.1, (true, A.1), A.2.2)
def sOn (A : aT) : aT := sSc A (aI A)
theorem kG.tr {m1 m2 : Nat → Int → Int} (h : kG m m1) (h2 : kG m1 m2) : kG m m2 := fun b hb => (h2 b hb).trans (h b hb)
theorem kG.u {m1 : Nat → Int → Int} (h : kG m m1) {a : Nat} (ha : a < 45) (f : Int → Int) : kG m (jU m1 a f) := h.tr fun b hb => jU_ne (by omega)
theorem jw_13 {i : Nat} (hi : i < 13) : jwl i ≤ 36 ∧ jwa i ≤ 36 ∧ 5 ≤ jwl i ∧ 5 ≤ jwa i := by
  have : ∀ i ∈ List.range 13, jwl i ≤ 36 ∧ jwa i ≤ 36 ∧ 5 ≤ jwl i ∧ 5 ≤ jwa i := by decide
  exact this i (List.mem_range.mpr hi)
theorem kG.w {m1 : Nat → Int → Int} (h : kG m m1) {i : Nat} (hi : i < 13) (L : Int → Int) (e : Int) : kG m (jW m1 i L e) :=
  h.tr fun b hb => by have := jw_13 hi; exact jW_ne (by omega) (by omega)
theorem jZ.w {i j : Nat} (hi : i < 13) (hj : j < 13) (z : jZ m i) {L : Int → Int} (hZ : fZ L) (e : Int) : jZ (jW m j L e) i := by
  intro p hp
  by_cases c : i = j
  · subst c
    rw [jW_L hi]
    exact hZ p hp
  · have q := jw_inj hi hj c
    rw [jW_ne q.1 (jw_ne hi hj).2.1]
    exact z p hp
theorem jw_12 : jwl 12 = 6 ∧ jwa 12 = 5 := by decide
/-- one walk's object told anew -/
theorem iC.jw {A : aT} (I : iC A m r T) {i : Nat} (hi : i < 6 ∨ i = 12) {L : Int → Int} {e : Int} (hZ : fZ L) {X : scT} (hX : scOk X) (hc : cSc (jW m i L e) r T 2 1 4 0 X) : iC (sSc A X) (jW m i L e) r T := by
  have h13 : i < 13 := by omega
  have hne : ∀ b, b ≤ 4 ∨ (19 ≤ b ∧ b ≤ 36) ∨ 37 ≤ b → jW m i L e b = m b := fun b hb => by
    have w := jw_13 h13
    rcases hi with hi | hi
    · have w2 := jw_lo hi
      exact jW_ne (by omega) (by omega)
    · subst hi
      have w2 := jw_12
      exact jW_ne (by omega) (by omega)
  obtain ⟨i1, i2', ⟨i3, i4⟩, i5, i6, ⟨q7, i7⟩, ⟨q8, i8⟩, i9, i10⟩ := I
  refine ⟨⟨hX, i1.2⟩, hc, ⟨by rw [hne 0 (by omega)]; exact i3, fun h => (i4 h).thn (i1.2.1 h).2.1 (fun b _ _ => hne b (by omega)) rfl (tK.rfl' T)⟩, fun j hj => (i5 j hj).w hj h13 hZ e, ?_, ⟨q7, ?_, i7.2⟩, ⟨q8, ?_, i8.2⟩, i9, fun j h0 h1 => ?_⟩
  · unfold jQ35 at *
    rw [hne 38 (by omega), hne 37 (by omega)]
    exact i6
  · have := i7.1
    unfold jQ37 at *
    rw [hne 40 (by omega), hne 39 (by omega)]
    exact this
  · have := i8.1
    unfold jQ39 at *
    rw [hne 42 (by omega), hne 41 (by omega)]
    exact this
  · rw [hne 44 (by omega)]
    exact i10 j h0 h1
theorem cSc.w {X : scT} (h : cSc m r T 2 1 4 0 X) (h6 : X.2.1.1 ≤ 6) {i : Nat} (hi : (X.2.1.1 ≤ i ∧ i < 6) ∨ i = 12) (L : Int → Int) (e : Int) : cSc (jW m i L e) r T 2 1 4 0 X := by
  have h13 : i < 13 := by omega
  have w := jw_13 h13
  obtain ⟨h1, h2, h3, h4, h5⟩ := h
  refine ⟨?_, ?_, fun j hj => ?_, ?_, h5⟩
  · rw [jW_ne (by omega) (by omega)]; exact h1
  · rw [jW_ne (by omega) (by omega)]; exact h2
  · have q := h3 j hj
    rw [Nat.zero_add] at q ⊢
    have z := jw_inj (show j < 13 by omega) h13 (by omega)
    have z2 := jw_ne (show j < 13 by omega) h13
    have z3 := jw_ne h13 (show j < 13 by omega)
    rw [jW_ne z.1 z2.2.1, jW_ne (fun e => z3.2.1 e.symm) z.2]
    exact q
  · rw [jW_ne (by omega) (by omega)]; exact h4
/-- an object that no walk is -/
theorem iC.junk {A : aT} (I : iC A m r T) {i : Nat} (hi : (aC A ≤ i ∧ i < 6) ∨ i = 12) {L : Int → Int} {e : Int} (hZ : fZ L) : iC A (jW m i L e) r T :=
  I.jw (X := A.1) (by omega) hZ I.1.1 (I.2.1.w I.1.1.2.1 hi L e)
theorem iC.set {A : aT} (I : iC A m r T) {i : Nat} (hi : i < aC A) {w : wT} (hw : wOkk (aS A) (aN A) (aK A) w) : iC (sWk A i w) (jW m i w.1 w.2) r T := by
  have h6 := I.c6
  refine I.jw (by omega) hw.2.2 ⟨I.1.1.1, I.1.1.2.1, fun j hj => ?_, I.1.1.2.2.2⟩ ?_
  · show wOkk (aS A) (aN A) (aK A) (if j = i then w else A.1.2.1.2 j)
    split
    · exact hw
    · exact I.wo hj
  · have h13 : i < 13 := by omega
    have w13 := jw_13 h13
    obtain ⟨h1, h2, h3, h4, h5⟩ := I.2.1
    refine ⟨?_, ?_, fun j hj => ?_, ?_, h5⟩
    · rw [jW_ne (by omega) (by omega)]; exact h1
    · rw [jW_ne (by omega) (by omega)]; exact h2
    · have hj : j < aC A := hj
      have q := h3 j hj
      show jW m i w.1 w.2 (jwl (0 + j)) = (if j = i then w else A.1.2.1.2 j).1 ∧ jW m i w.1 w.2 (jwa (0 + j)) 2 = (if j = i then w else A.1.2.1.2 j).2
      rw [Nat.zero_add] at q ⊢
      by_cases c : j = i
      · subst c
        rw [if_pos rfl, jW_L h13, jW_E]
        exact ⟨rfl, rfl⟩
      · rw [if_neg c]
        have z := jw_inj (show j < 13 by omega) h13 c
        have z2 := jw_ne (show j < 13 by omega) h13
        have z3 := jw_ne h13 (show j < 13 by omega)
        rw [jW_ne z.1 z2.2.1, jW_ne (fun e => z3.2.1 e.symm) z.2]
        exact q
    · rw [jW_ne (by omega) (by omega)]; exact h4
/-- the scene's own counts told anew -/
theorem iC.cnt {A : aT} (I : iC A m r T) {f : Int → Int} {X : scT} (hX : scOk X) (h1 : X.1 = A.1.1) (h2 : f 2 = (X.2.1.1 : Int)) (h3 : ∀ i, i < X.2.1.1 → m (jwl i) = (X.2.1.2 i).1 ∧ m (jwa i) 2 = (X.2.1.2 i).2) (h4 : f 5 = (X.2.2.1 : Int)) (h5 : ∀ i, i < X.2.2.1 → ∃ u, r 4 i = .ref (62 + u) ∧ T[u]? = some (hTag (X.2.2.2 i).1, [.int (jI (X.2.2.2 i).2)])) : iC (sSc A X) (jU m 1 f) r T := by
  have hne : ∀ b, b ≠ 1 → jU m 1 f b = m b := fun b hb => jU_ne hb
  obtain ⟨i1, i2', ⟨i3, i4⟩, i5, i6, ⟨q7, i7⟩, ⟨q8, i8⟩, i9, i10⟩ := I
  refine ⟨⟨hX, i1.2⟩, ⟨?_, ?_, fun i hi => ?_, ?_, h5⟩, ⟨by rw [hne 0 (by omega)]; exact i3, fun h => (i4 h).thn (i1.2.1 h).2.1 (fun b _ _ => hne b (by omega)) rfl (tK.rfl' T)⟩, fun j hj p hp => ?_, ?_, ⟨q7, ?_, i7.2⟩, ⟨q8, ?_, i8.2⟩, i9, fun j h0 h1 => ?_⟩
  · rw [hne 2 (by omega)]
    show m 2 0 = X.1.1 ∧ m 2 1 = X.1.2.1 ∧ m 2 2 = X.1.2.2
    rw [h1]
    exact i2'.1
  · rw [jU_same]; exact h2
  · have h6 := hX.2.1
    have hi : i < X.2.1.1 := hi
    have w := jw_lo (i := i) (by omega)
    rw [Nat.zero_add, hne _ (by omega), hne _ (by omega)]
    exact h3 i hi
  · rw [jU_same]; exact h4
  · have w := jw_13 hj
    rw [hne _ (by omega)]
    exact i5 j hj p hp
  · unfold jQ35 at *
    rw [hne 38 (by omega), hne 37 (by omega)]
    exact i6
  · have := i7.1
    unfold jQ37 at *
    rw [hne 40 (by omega), hne 39 (by omega)]
    exact this
  · have := i8.1
    unfold jQ39 at *
    rw [hne 42 (by omega), hne 41 (by omega)]
    exact this
  · rw [hne 44 (by omega)]
    exact i10 j h0 h1
theorem iC.he {A : aT} (I : iC A m r T) : ∀ i, i < aHc A → ∃ u, r 4 i = .ref (62 + u) ∧ T[u]? = some (hTag (aH A i).1, [.int (jI (aH A i).2)]) := I.2.1.2.2.2.2
theorem iC.ws {A : aT} (I : iC A m r T) : ∀ i, i < aC A → m (jwl i) = (aW A i).1 ∧ m (jwa i) 2 = (aW A i).2 := fun i hi => by
  have := I.2.1.2.2.1 i hi
  rwa [Nat.zero_add] at this
/-- a walk more -/
theorem iC.add {A : aT} (I : iC A m r T) (hc : aC A < 6) {w : wT} (hw : wOkk (aS A) (aN A) (aK A) w) : iC (sAdd A w) (jU (jW m (aC A) w.1 w.2) 1 (ju (m 1) 2 ((aC A : Int) + 1))) r T := by
  have J := I.junk (i := aC A) (e := w.2) (Or.inl ⟨Nat.le_refl _, hc⟩) hw.2.2
  have e1 : ju (m 1) 2 ((aC A : Int) + 1) = ju (jW m (aC A) w.1 w.2 1) 2 ((aC A : Int) + 1) := by rw [jW_1 (by omega)]
  rw [e1]
  have key : ∀ j, j < aC A + 1 → wOkk (aS A) (aN A) (aK A) (if j = aC A then w else A.1.2.1.2 j) := fun j hj => by
    split
    · exact hw
    · exact I.wo (by omega)
  refine J.cnt (X := (A.1.1, (aC A + 1, fun j => if j = aC A then w else A.1.2.1.2 j), A.1.2.2)) ⟨I.1.1.1, hc, key, I.1.1.2.2.2⟩ rfl (ju_same _ _ _) (fun j hj => ?_) ?_ J.he
  · have hj : j < aC A + 1 := hj
    show _ = (if j = aC A then w else A.1.2.1.2 j).1 ∧ _ = (if j = aC A then w else A.1.2.1.2 j).2
    by_cases c : j = aC A
    · subst c
      rw [if_pos rfl, jW_L (by omega), jW_E]
      exact ⟨rfl, rfl⟩
    · rw [if_neg c]
      exact J.ws j (by omega)
  · rw [ju_ne (by decide)]
    exact J.hc
theorem iC.drop {A : aT} (I : iC A m r T) {c : Nat} (hc : c ≤ aC A) {x : Int} (hx : x = c) : iC (sC A c) (jU m 1 (ju (m 1) 2 x)) r T := by
  subst hx
  have h6 := I.c6
  refine I.cnt (X := (A.1.1, (c, A.1.2.1.2), A.1.2.2)) ⟨I.1.1.1, by show c ≤ 6; omega, fun i hi => I.wo (by have hi : i < c := hi; omega), I.1.1.2.2.2⟩ rfl (ju_same _ _ _) (fun j hj => I.ws j (by have hj : j < c := hj; omega)) ?_ I.he
  rw [ju_ne (by decide)]
  exact I.hc
theorem fZ_0 : fZ (fun _ => 0) := fun _ _ => rfl
theorem fTu_z {s n k c b : Int} {L : Int → Int} (h : fS s n k) (hZ : fZ L) : fZ (fTu s n k L c b) := by
  unfold fTu
  split
  · rename_i h1
    have q := fPl_i h c
    unfold fS at h
    intro p hp
    rw [ju_ne (fun e => by
      rcases q with q | q
      · omega
      · rw [h1] at q; exact absurd q.1 (by decide))]
    exact hZ p hp
  · exact hZ
theorem fGo_z {s n k e c : Int} {L : Int → Int} (h : fS s n k) (hZ : fZ L) : fZ (fGo s n k L e c).2.1 := by
  unfold fGo
  split
  · exact fTu_z h hZ
  · split
    · exact fTu_z h hZ
    · split
      · split <;> exact hZ
      · split
        · split <;> exact hZ
        · exact hZ
theorem fMulL_z {s n k e : Int} {L L2 : Int → Int} (h : fS s n k) (hZ : fZ L) : ∀ v, fZ (fMulL s n k L e L2 v)
  | 0 => hZ
  | v + 1 => fTu_z h (fMulL_z h hZ v)
theorem fMul_z {s n k e e2 : Int} {L L2 : Int → Int} (h : fS s n k) (hZ : fZ L) : fZ (fMul s n k L e L2 e2).2.1 := by
  unfold fMul
  split
  · exact fMulL_z h hZ _
  · exact hZ
theorem fInvL_z {s n k e2 : Int} {L2 : Int → Int} (h : fS s n k) : ∀ v, fZ (fInvL s n k L2 e2 v)
  | 0 => fun _ _ => rfl
  | v + 1 => fTu_z h (fInvL_z h v)
theorem fPow_z {s n k e2 : Int} {L2 : Int → Int} (h : fS s n k) : ∀ v, fZ (fPow s n k L2 e2 v).2.1
  | 0 => fun _ _ => rfl
  | v + 1 => by
    unfold fPow
    split
    · exact fMul_z h (fPow_z h v)
    · exact fPow_z h v
theorem wOkk.mul {s n k : Int} {w w2 : wT} (h : fS s n k) (o : wOkk s n k w) : wOkk s n k (fMul s n k w.1 w.2 w2.1 w2.2).2 := by
  have q := fMul_ok (L2 := w2.1) (e2 := w2.2) h o.1 o.2.1
  exact ⟨q.1, q.2, fMul_z h o.2.2⟩
theorem wOkk.go {s n k c : Int} {w : wT} (h : fS s n k) (o : wOkk s n k w) : wOkk s n k (fGo s n k w.1 w.2 c).2 := by
  have q := fGo_ok (c := c) h o.1 o.2.1
  exact ⟨q.1, q.2, fGo_z h o.2.2⟩
def aInv (s n k : Int) (w : wT) : wT := (fInvL s n k w.1 w.2 25, fRe s n 0 (-w.2))
theorem wOkk.inv {s n k : Int} {w : wT} (h : fS s n k) (o : wOkk s n k w) : wOkk s n k (aInv s n k w) := ⟨fInvL_ok h 25, fRe_neg h o.2.1, fInvL_z h 25⟩
theorem wOkk.pow {s n k : Int} {w : wT} (h : fS s n k) (K : Nat) : wOkk s n k (fPow s n k w.1 w.2 K).2 := by
  have q := fPow_ok (L2 := w.1) (e2 := w.2) h K
  exact ⟨q.1, q.2, fPow_z h K⟩
theorem wOkk.bare {s n k : Int} (h : fS s n k) : wOkk s n k (fun _ => 0, 0) := ⟨fL_0 h, fC_0 h, fun _ _ => rfl⟩
end C52
