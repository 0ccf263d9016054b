/-! THE STATE that both sides hold -/
section C51
variable {sc : Nat × (Nat → Int32)} {d M pc pc' t : Nat} {ls st : List Value} {Q : Option Value → jx_H → Prop} {lst : List (Nat × Instr × Nat)} {own mx : Nat} {isi : Bool} {rt : Option FieldType} {m m' : Nat → Int → Int} {r r' : Nat → Nat → Value} {T T' : jx_H} {σ : jx_H}
/-- an object, or none -/
def mv (p : Prop) [Decidable p] (a : Nat) : Value := if p then .ref a else .null
theorem mv_t {p : Prop} [Decidable p] {a : Nat} (h : p) : mv p a = .ref a := if_pos h
theorem mv_f {p : Prop} [Decidable p] {a : Nat} (h : ¬ p) : mv p a = .null := if_neg h
theorem je_ifnullm (hB : jx_B M lst own isi rt mx) {p : Prop} [Decidable p] {off : Int} {len a : Nat} (hI : jx_lk lst pc = some (.ifnull off, len)) (ht : jx_tgt pc off = some t) (hp : pc + 3 = pc') (kt : ¬ p → je sc d M t ls st σ Q) (kf : p → je sc d M pc' ls st σ Q) : je sc d M pc ls (mv p a :: st) σ Q := by
  by_cases h : p
  · rw [mv_t h]
    exact je_ifnullR hB hI ht hp (kf h)
  · rw [mv_f h]
    exact je_ifnullN hB hI ht hp (kt h)
theorem je_ifnonnullm (hB : jx_B M lst own isi rt mx) {p : Prop} [Decidable p] {off : Int} {len a : Nat} (hI : jx_lk lst pc = some (.ifnonnull off, len)) (ht : jx_tgt pc off = some t) (hp : pc + 3 = pc') (kt : p → je sc d M t ls st σ Q) (kf : ¬ p → je sc d M pc' ls st σ Q) : je sc d M pc ls (mv p a :: st) σ Q := by
  by_cases h : p
  · rw [mv_t h]
    exact je_ifnonnullR hB hI ht hp (kt h)
  · rw [mv_f h]
    exact je_ifnonnullN hB hI ht hp (kf h)
abbrev wT : Type := (Int → Int) × Int
abbrev scT : Type := (Int × Int × Int) × (Nat × (Nat → wT)) × (Nat × (Nat → Int × Int))
abbrev aT : Type := scT × (Bool × scT) × wT × (Nat → wT) × (Int → Int)
def aS (A : aT) : Int := A.1.1.1
def aN (A : aT) : Int := A.1.1.2.1
def aK (A : aT) : Int := A.1.1.2.2
def aC (A : aT) : Nat := A.1.2.1.1
def aW (A : aT) (i : Nat) : wT := A.1.2.1.2 i
def aHc (A : aT) : Nat := A.1.2.2.1
def aH (A : aT) (i : Nat) : Int × Int := A.1.2.2.2 i
def aTk (A : aT) : Bool := A.2.1.1
def aI (A : aT) : scT := A.2.1.2
def aQ (A : aT) : wT := A.2.2.1
def aL (A : aT) (l : Nat) : wT := A.2.2.2.1 l
def aR (A : aT) (j : Int) : Int := A.2.2.2.2 j
def fZ (L : Int → Int) : Prop := ∀ p : Int, ¬ (0 ≤ p ∧ p < 25) → L p = 0
def wOkk (s n k : Int) (w : wT) : Prop := fL n k w.1 ∧ fC s n w.2 ∧ fZ w.1
def scOk (X : scT) : Prop := fS X.1.1 X.1.2.1 X.1.2.2 ∧ X.2.1.1 ≤ 6 ∧ (∀ i, i < X.2.1.1 → wOkk X.1.1 X.1.2.1 X.1.2.2 (X.2.1.2 i)) ∧ X.2.2.1 ≤ 4 ∧ ∀ i, i < X.2.2.1 → (0 ≤ (X.2.2.2 i).1 ∧ (X.2.2.2 i).1 ≤ 5) ∧ 0 ≤ (X.2.2.2 i).2 ∧ (X.2.2.2 i).2 ≤ 9
def aOk (A : aT) : Prop := scOk A.1 ∧ (aTk A = true → scOk (aI A)) ∧ (∀ p, 0 ≤ (aQ A).1 p ∧ (aQ A).1 p ≤ 255) ∧ ∀ l, l < 3 → ((aL A l).2 = -1 ∨ 0 ≤ (aL A l).2 ∧ (aL A l).2 ≤ 40) ∧ ∀ p, -2147483648 ≤ (aL A l).1 p ∧ (aL A l).1 p ≤ 2147483647
/-- a scene as it lies in the class's cells -/
def cSc (m : Nat → Int → Int) (r : Nat → Nat → Value) (T : jx_H) (B S H K : Nat) (X : scT) : Prop :=
  (m B 0 = X.1.1 ∧ m B 1 = X.1.2.1 ∧ m B 2 = X.1.2.2) ∧ m S 2 = (X.2.1.1 : Int) ∧ (∀ i, i < X.2.1.1 → m (jwl (K + i)) = (X.2.1.2 i).1 ∧ m (jwa (K + i)) 2 = (X.2.1.2 i).2) ∧ m S 5 = (X.2.2.1 : Int) ∧ ∀ i, i < X.2.2.1 → ∃ u, r H i = .ref (62 + u) ∧ T[u]? = some (hTag (X.2.2.2 i).1, [.int (jI (X.2.2.2 i).2)])
def qB (q : wT) : Prop := ∀ p, -2147483648 ≤ q.1 p ∧ q.1 p ≤ 2147483647
/-- the lists' rows -/
def cLs (A : aT) (r : Nat → Nat → Value) (T : jx_H) : Prop := ∃ (t u : Nat → Nat) (f : Nat → Int → Int), (∀ l, l < 3 → ((aL A l).2 = -1 ∧ r 43 l = .null) ∨ (0 ≤ (aL A l).2 ∧ r 43 l = .ref (62 + t l) ∧ jTr T (t l) (u l) (f l) (aL A l).2 ∧ (∀ p, -2147483648 ≤ f l p ∧ f l p ≤ 2147483647) ∧ ∀ p : Int, 0 ≤ p → p < (aL A l).2 → f l p = (aL A l).1 p)) ∧ ∀ l l', l < 3 → l' < 3 → l ≠ l' → 0 ≤ (aL A l).2 → 0 ≤ (aL A l').2 → t l ≠ t l' ∧ u l ≠ u l'
def iC (A : aT) (m : Nat → Int → Int) (r : Nat → Nat → Value) (T : jx_H) : Prop :=
  aOk A ∧ cSc m r T 2 1 4 0 A.1 ∧ (m 0 2 = jb (aTk A) ∧ (aTk A = true → cSc m r T 20 19 22 6 (aI A))) ∧ (∀ i, i < 13 → jZ m i) ∧ jQ35 m (aQ A) ∧ (∃ q, jQ37 m q ∧ qB q) ∧ (∃ q, jQ39 m q ∧ qOk q) ∧ cLs A r T ∧ ∀ j : Int, 0 ≤ j → j < 6 → m 44 j = aR A j
/-- nothing of the other side's cells, of this side's -/
def kG (m m' : Nat → Int → Int) : Prop := ∀ b, 45 ≤ b → m' b = m b
def kC (m m' : Nat → Int → Int) : Prop := ∀ b, b < 45 → m' b = m b
/-- helpers stay where they are -/
def tK (T T' : jx_H) : Prop := ∀ (u : Nat) (c : jx_C), T[u]? = some c → c.1 ≠ 3 → c.1 ≠ 100 → T'[u]? = some c
def tG (T T' : jx_H) : Prop := T'.length ≤ T.length + 2 ∧ jx_wt T' ≤ jx_wt T + 60
theorem tK.rfl' (T : jx_H) : tK T T := fun _ _ h _ _ => h
theorem tG.rfl' (T : jx_H) : tG T T := ⟨by omega, by omega⟩
theorem hTag_ne (k : Int) : hTag k ≠ 3 ∧ hTag k ≠ 100 := by
  unfold hTag
  split
  · decide
  · split
    · decide
    · split
      · decide
      · split
        · decide
        · split <;> decide
theorem jw_lo {i : Nat} (hi : i < 6) : 1 ≤ jwl i ∧ jwl i ≤ 18 ∧ 1 ≤ jwa i ∧ jwa i ≤ 18 ∧ 5 ≤ jwa i ∧ 5 ≤ jwl i := by
  unfold jwl jwa
  rw [if_pos hi]
  omega
theorem jw_hi {i : Nat} (hi : i < 6) : 19 ≤ jwl (6 + i) ∧ jwl (6 + i) ≤ 36 ∧ 19 ≤ jwa (6 + i) ∧ jwa (6 + i) ≤ 36 ∧ 25 ≤ jwa (6 + i) ∧ 25 ≤ jwl (6 + i) := by
  unfold jwl jwa
  rw [if_neg (by omega), if_pos (by omega)]
  omega
theorem cSc.now {X : scT} (h : cSc m r T 2 1 4 0 X) (h6 : X.2.1.1 ≤ 6) (hm : ∀ b, 1 ≤ b → b ≤ 18 → m' b = m b) (hr : r' 4 = r 4) (hT : tK T T') : cSc m' r' T' 2 1 4 0 X := by
  obtain ⟨h1, h2, h3, h4, h5⟩ := h
  refine ⟨?_, ?_, fun i hi => ?_, ?_, fun i hi => ?_⟩
  · rw [hm 2 (by decide) (by decide)]; exact h1
  · rw [hm 1 (by decide) (by decide)]; exact h2
  · have q := h3 i hi
    have w := jw_lo (i := i) (by omega)
    rw [Nat.zero_add] at q ⊢
    rw [hm _ (by omega) (by omega), hm _ (by omega) (by omega)]
    exact q
  · rw [hm 1 (by decide) (by decide)]; exact h4
  · obtain ⟨u, q1, q2⟩ := h5 i hi
    have w := hTag_ne (X.2.2.2 i).1
    exact ⟨u, by rw [hr]; exact q1, hT u _ q2 w.1 w.2⟩
theorem cSc.thn {X : scT} (h : cSc m r T 20 19 22 6 X) (h6 : X.2.1.1 ≤ 6) (hm : ∀ b, 19 ≤ b → b ≤ 36 → m' b = m b) (hr : r' 22 = r 22) (hT : tK T T') : cSc m' r' T' 20 19 22 6 X := by
  obtain ⟨h1, h2, h3, h4, h5⟩ := h
  refine ⟨?_, ?_, fun i hi => ?_, ?_, fun i hi => ?_⟩
  · rw [hm 20 (by decide) (by decide)]; exact h1
  · rw [hm 19 (by decide) (by decide)]; exact h2
  · have q := h3 i hi
    have w := jw_hi (i := i) (by omega)
    rw [hm _ (by omega) (by omega), hm _ (by omega) (by omega)]
    exact q
  · rw [hm 19 (by decide) (by decide)]; exact h4
  · obtain ⟨u, q1, q2⟩ := h5 i hi
    have w := hTag_ne (X.2.2.2 i).1
    exact ⟨u, by rw [hr]; exact q1, hT u _ q2 w.1 w.2⟩
/-- a refusal counted -/
def aRef (A : aT) (x : Int) : Int × aT := (x, (A.1, A.2.1, A.2.2.1, A.2.2.2.1, ju A.2.2.2.2 (-1 - x) (A.2.2.2.2 (-1 - x) + 1)))
def aFar (A : aT) (x : Int) : Int × aT := (1000000000 - x, (aRef A x).2)
def aFarL (A : aT) (x : Int) : Int × aT := (4000000000000000000 - x, (aRef A x).2)
/-- the class's answer and the state behind it -/
def cQ (p : Int × aT) (m : Nat → Int → Int) (T : jx_H) : Option Value → jx_H → Prop := fun v σ => ∃ m' r' T', v = some (.int (jI p.1)) ∧ σ = jh m' r' T' ∧ iC p.2 m' r' T' ∧ kG m m' ∧ tG T T'
def cQl (p : Int × aT) (m : Nat → Int → Int) (T : jx_H) : Option Value → jx_H → Prop := fun v σ => ∃ m' r' T', v = some (.long (jL p.1)) ∧ σ = jh m' r' T' ∧ iC p.2 m' r' T' ∧ kG m m' ∧ tG T T'
theorem iC.c {A : aT} (I : iC A m r T) : m 1 2 = (aC A : Int) := I.2.1.2.1
theorem iC.c6 {A : aT} (I : iC A m r T) : aC A ≤ 6 := I.1.1.2.1
theorem iC.hc {A : aT} (I : iC A m r T) : m 1 5 = (aHc A : Int) := I.2.1.2.2.2.1
theorem iC.hc4 {A : aT} (I : iC A m r T) : aHc A ≤ 4 := I.1.1.2.2.2.1
theorem iC.fs {A : aT} (I : iC A m r T) : fS (aS A) (aN A) (aK A) := I.1.1.1
theorem iC.str {A : aT} (I : iC A m r T) {i : Nat} (hi : jws i = 2) : jStr m i (aS A) (aN A) (aK A) := by
  unfold jStr
  rw [hi]
  exact ⟨I.2.1.1, I.fs⟩
theorem jws_6 {i : Nat} (hi : i < 6) : jws i = 2 := by
  unfold jws
  rw [if_pos hi]
theorem iC.wo {A : aT} (I : iC A m r T) {i : Nat} (hi : i < aC A) : wOkk (aS A) (aN A) (aK A) (aW A i) := I.1.1.2.2.1 i hi
theorem iC.wk {A : aT} (I : iC A m r T) {i : Nat} (hi : i < aC A) : jWk m i (aS A) (aN A) (aK A) (aW A i).1 (aW A i).2 := by
  have h6 := I.c6
  have q := I.2.1.2.2.1 i hi
  have w := I.wo hi
  rw [Nat.zero_add] at q
  exact ⟨I.str (jws_6 (by omega)), q.1, q.2, w.1, w.2.1⟩
theorem iC.z {A : aT} (I : iC A m r T) {i : Nat} (hi : i < 13) : jZ m i := I.2.2.2.1 i hi
/-- other cells than those of the lists, the refusals, the letters: the rest stays -/
theorem iC.ref {A : aT} (I : iC A m r T) {x : Int} (hx : -6 ≤ x ∧ x ≤ -1) : iC (aRef A x).2 (jU m 44 (ju (m 44) (-1 - x) (m 44 (-1 - x) + 1))) r T := by
  have hne : ∀ b, b ≠ 44 → jU m 44 (ju (m 44) (-1 - x) (m 44 (-1 - x) + 1)) b = m b := fun b hb => jU_ne hb
  obtain ⟨i1, i2', ⟨i3, i4⟩, i5, i6, ⟨q7, i7⟩, ⟨q8, i8⟩, i9, i10⟩ := I
  refine ⟨i1, i2'.now i1.1.2.1 (fun b _ _ => hne b (by omega)) rfl (tK.rfl' T), ⟨by rw [hne 0 (by decide)]; exact i3, fun h => (i4 h).thn (i1.2.1 h).2.1 (fun b _ _ => hne b (by omega)) rfl (tK.rfl' T)⟩, fun i hi p hp => ?_, ?_, ⟨q7, ?_, i7.2⟩, ⟨q8, ?_, i8.2⟩, i9, fun j h0 h1 => ?_⟩
  · have : jwl i ≠ 44 := by
      have : ∀ i ∈ List.range 13, jwl i ≠ 44 := by decide
      exact this i (List.mem_range.mpr hi)
    rw [hne _ this]
    exact i5 i hi p hp
  · unfold jQ35 at *
    rw [hne 38 (by decide), hne 37 (by decide)]
    exact i6
  · have := i7.1
    unfold jQ37 at *
    rw [hne 40 (by decide), hne 39 (by decide)]
    exact this
  · have := i8.1
    unfold jQ39 at *
    rw [hne 42 (by decide), hne 41 (by decide)]
    exact this
  · rw [jU_same]
    have q := i10 j h0 h1
    have q2 := i10 (-1 - x) (by omega) (by omega)
    show ju (m 44) (-1 - x) (m 44 (-1 - x) + 1) j = ju A.2.2.2.2 (-1 - x) (A.2.2.2.2 (-1 - x) + 1) j
    unfold ju
    by_cases c : j = -1 - x
    · rw [if_pos c, if_pos c, q2]
      rfl
    · rw [if_neg c, if_neg c]
      exact q
theorem kG.ref (m : Nat → Int → Int) (f : Int → Int) : kG m (jU m 44 f) := fun b hb => jU_ne (by omega)
theorem kG.rfl' (m : Nat → Int → Int) : kG m m := fun _ _ => rfl
/-- how the class refuses -/
theorem cl_ref {A : aT} (I : iC A m r T) {x : Int} (hx : -6 ≤ x ∧ x ≤ -1) : jq sc 1 jm_X11_refuse [.ref 0, .int (jI x)] (jh m r T) (cQ (aRef A x) m T) := by
  obtain ⟨v, σ1, h1, h2, h3⟩ := c_X11_refuse (sc := sc) (m := m) (r := r) (T := T) hx
  exact ⟨v, σ1, h1, _, _, _, h2, h3, I.ref hx, kG.ref m _, tG.rfl' T⟩
theorem k_walkAt {c : Nat} (hc : m 1 2 = (c : Int)) (h6 : c ≤ 6) {x : Int} (hx : -2147483648 ≤ x ∧ x ≤ 2147483647) : jq sc 1 jm_X4_walkAt [.ref 1, .int (jI x)] (jh m r T) (jP (some (mv (0 ≤ x ∧ x < (c : Int)) (jwa x.toNat))) (jh m r T)) := by
  by_cases h : 0 ≤ x ∧ x < (c : Int)
  · rw [mv_t h]
    have := walkAt_n_t (sc := sc) (m := m) (r := r) (T := T) (i := x.toNat) hc (by omega) (by omega)
    rwa [Nat.zero_add, show ((x.toNat : Nat) : Int) = x by omega] at this
  · rw [mv_f h]
    exact walkAt_n_f hc (by omega) hx h
theorem k_freeWalk {c : Nat} (hc : m 1 2 = (c : Int)) (h6 : c ≤ 6) : jq sc 1 jm_X4_freeWalk [.ref 1] (jh m r T) (jP (some (mv (c < 6) (jwa c))) (jh m r T)) := by
  by_cases h : c < 6
  · rw [mv_t h]
    have := freeWalk_n_t (sc := sc) (m := m) (r := r) (T := T) hc h
    rwa [Nat.zero_add] at this
  · rw [mv_f h]
    exact freeWalk_n_f hc (by omega)
end C51
