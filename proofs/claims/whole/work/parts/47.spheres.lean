/-! SPHERES: how many there are, counted either way -/
section C47
theorem fSum_1 {f g : Int → Int} {p : Int} (h1 : g p ≤ f p + 1) (h2 : ∀ q, q ≠ p → g q = f q) : ∀ v : Nat, fSum g v ≤ fSum f v + 1 ∧ ((v : Int) ≤ p → fSum g v = fSum f v)
  | 0 => ⟨by show (0 : Int) ≤ 0 + 1; decide, fun _ => rfl⟩
  | v + 1 => by
    obtain ⟨i1, i2⟩ := fSum_1 h1 h2 v
    have e1 : fSum g (v + 1) = fSum g v + g (v : Int) := rfl
    have e2 : fSum f (v + 1) = fSum f v + f (v : Int) := rfl
    rw [e1, e2]
    by_cases c : (v : Int) = p
    · rw [c]
      have := i2 (by omega)
      exact ⟨by omega, fun h => by omega⟩
    · have := h2 v c
      exact ⟨by omega, fun h => by have := i2 (by omega); omega⟩
theorem turn_1 {k x b : Int} (hk : 2 ≤ k ∧ k ≤ 5) (hx : 0 ≤ x ∧ x < k) (hb : b = 1 ∨ b = -1) : min ((x + b) % k) (k - (x + b) % k) ≤ min x (k - x) + 1 := by
  rcases (by omega : k = 2 ∨ k = 3 ∨ k = 4 ∨ k = 5) with h | h | h | h <;> subst h <;> rcases hb with hb | hb <;> subst hb <;> omega
theorem fC_fRd {s n k e : Int} (h : fS s n k) (he : fC s n e) : fRd s n e = e := by
  have gs := h
  unfold fS at gs
  unfold fC at he
  have gl := fLo_c s
  unfold fRd
  by_cases h1 : s = 1
  · rw [if_pos h1, Int.emod_eq_of_lt (by omega) (by omega)]
  · rw [if_neg h1]
theorem fRd_fRd (s n a b : Int) : fRd s n (fRd s n a + b) = fRd s n (a + b) := by
  unfold fRd
  split
  · rw [Int.emod_add_emod]
  · rfl
/-- a letter more: at most one longer -/
theorem lip {s n k e c : Int} {L : Int → Int} (h : fS s n k) (hL : fL n k L) (he : fC s n e) : fLen s n k (fGo s n k L e c).2.1 (fGo s n k L e c).2.2 ≤ fLen s n k L e + 1 := by
  have ok := fGo_ok (c := c) h hL he
  obtain ⟨lo, hi, g, T, hT⟩ := tour_at h hL he (fC_0 h)
  obtain ⟨⟨t1, t2, t3, t4⟩, t5, t6⟩ := T
  have hk : 2 ≤ k ∧ k ≤ 5 := h.2
  have turn : ∀ b : Int, b = 1 ∨ b = -1 → fLen s n k (ju L (e - fLo s) ((L (e - fLo s) + b) % k)) e ≤ fLen s n k L e + 1 := by
    intro b hb
    have hL' : fL n k (ju L (e - fLo s) ((L (e - fLo s) + b) % k)) := by
      have := fTu_ok (c := e) (b := b) h hL
      rwa [fTu_at he] at this
    have a1 := (fSum_1 (f := fun p => min (L p) (k - L p)) (g := fun p => min (ju L (e - fLo s) ((L (e - fLo s) + b) % k) p) (k - ju L (e - fLo s) ((L (e - fLo s) + b) % k) p)) (p := e - fLo s) (by
      show min (ju L (e - fLo s) ((L (e - fLo s) + b) % k) (e - fLo s)) (k - ju L (e - fLo s) ((L (e - fLo s) + b) % k) (e - fLo s)) ≤ min (L (e - fLo s)) (k - L (e - fLo s)) + 1
      rw [ju_same]
      exact turn_1 hk (hL.1 _) hb) (fun q hq => by
      show min (ju L (e - fLo s) ((L (e - fLo s) + b) % k) q) (k - ju L (e - fLo s) ((L (e - fLo s) + b) % k) q) = min (L q) (k - L q)
      rw [ju_ne hq]) 25).1
    have a2 := tour_up (lo := lo) (hi := hi) (g := g) h hL' he (fC_0 h) ⟨⟨t1, t2, t3, t4⟩, t5, fun p p0 p1 hp => by
      by_cases c : p = e - fLo s
      · exact ⟨g, t3, t4, by rw [t5, c]; omega⟩
      · rw [ju_ne c] at hp
        exact t6 p p0 p1 hp⟩
    unfold fLen fTn
    omega
  have move : ∀ b : Int, b = 1 ∨ b = -1 → fC s n (fRe s n e b) → fLen s n k L (fRe s n e b) ≤ fLen s n k L e + 1 := by
    intro b hb hC
    have j0 := jabs_c g
    have j1 := jabs_c (g + b)
    have a2 := tour_up (lo := max lo (-(g + b))) (hi := max hi (g + b)) (g := g + b) h hL hC (fC_0 h) ⟨⟨by omega, by omega, by omega, by omega⟩, by
      rw [Int.zero_add] at t5 ⊢
      rw [fRe_Rd, ← t5, fRd_fRd], fun p p0 p1 hp => by
      obtain ⟨t, u1, u2, u3⟩ := t6 p p0 p1 hp
      exact ⟨t, by omega, by omega, u3⟩⟩
    unfold fLen
    rcases hb with hb | hb <;> subst hb <;> omega
  have stay : fLen s n k L e ≤ fLen s n k L e + 1 := by omega
  by_cases c0 : c = 0
  · subst c0
    rw [fGo_0 he]
    exact turn 1 (Or.inl rfl)
  by_cases c1 : c = 1
  · subst c1
    rw [fGo_1 he]
    exact turn (-1) (Or.inr rfl)
  by_cases c2 : c = 2
  · subst c2
    rw [fGo_2]
    split
    · rename_i q
      exact move 1 (Or.inl rfl) (fHas_t q)
    · exact stay
  by_cases c3 : c = 3
  · subst c3
    rw [fGo_3]
    split
    · rename_i q
      exact move (-1) (Or.inr rfl) (fHas_t q)
    · exact stay
  · unfold fGo
    rw [if_neg c0, if_neg c1, if_neg c2, if_neg c3]
    exact stay
theorem len_0 {s n k : Int} (h : fS s n k) : fLen s n k (fun _ => 0) 0 = 0 := by
  have hk : 2 ≤ k ∧ k ≤ 5 := h.2
  have a1 : fTn k (fun _ => 0) = 0 := fSum_0 25 (fun p _ => by show min (0 : Int) (k - 0) = 0; omega)
  have a2 := tour_up (lo := 0) (hi := 0) (g := 0) h (fL_0 h) (fC_0 h) (fC_0 h) ⟨by decide, by rw [Int.add_zero, fC_fRd h (fC_0 h)], fun p _ _ hp => absurd (show (0 : Int) < 0 from hp) (by decide)⟩
  have a3 := fTour_i (L := fun _ => 0) h (e := 0) (st := 0) (by omega) (by omega)
  have a4 : jabs 0 = 0 := rfl
  unfold fLen
  omega
/-- letters one behind another, what can't be done left out -/
def rn (s n k : Int) : (Int → Int) × Int → List Int → (Int → Int) × Int
  | w, [] => w
  | w, c :: cs => rn s n k (fGo s n k w.1 w.2 c).2 cs
theorem rn_ok {s n k : Int} (h : fS s n k) : ∀ (cs : List Int) (w : (Int → Int) × Int), fL n k w.1 → fC s n w.2 → fL n k (rn s n k w cs).1 ∧ fC s n (rn s n k w cs).2
  | [], _, hL, he => ⟨hL, he⟩
  | c :: cs, w, hL, he => by
    have g := fGo_ok (c := c) h hL he
    exact rn_ok h cs _ g.1 g.2
theorem rn_len {s n k : Int} (h : fS s n k) : ∀ (cs : List Int) (w : (Int → Int) × Int), fL n k w.1 → fC s n w.2 → fLen s n k (rn s n k w cs).1 (rn s n k w cs).2 ≤ fLen s n k w.1 w.2 + cs.length
  | [], w, _, _ => by show fLen s n k w.1 w.2 ≤ fLen s n k w.1 w.2 + ((0 : Nat) : Int); omega
  | c :: cs, w, hL, he => by
    have g := fGo_ok (c := c) h hL he
    have ih := rn_len h cs _ g.1 g.2
    have l := lip (c := c) h hL he
    show fLen s n k (rn s n k (fGo s n k w.1 w.2 c).2 cs).1 (rn s n k (fGo s n k w.1 w.2 c).2 cs).2 ≤ _
    rw [List.length_cons]
    omega
/-- the class's way: all that it comes to, in a row -/
def fD (s n k : Int) : Nat → Int → (Int → Int) × Int → List Int
  | 0, dep, w => if fLen s n k w.1 w.2 = dep then [fCode s n w.1 w.2] else []
  | rem + 1, dep, w => if fLen s n k w.1 w.2 = dep then (List.range 4).flatMap (fun c : Nat => if (fGo s n k w.1 w.2 (c : Int)).1 = true then fD s n k rem (dep + 1) (fGo s n k w.1 w.2 (c : Int)).2 else []) else []
theorem fIt_fold {F : ((Int → Int) × Int) → Nat → (Int → Int) × Int} {G : Nat → List Int} (h : ∀ q c, F q c = (G c).foldl fRO q) (q : (Int → Int) × Int) : ∀ v, fIt F q v = ((List.range v).flatMap G).foldl fRO q
  | 0 => rfl
  | v + 1 => by
    show F (fIt F q v) v = _
    rw [h, fIt_fold h q v, List.range_succ, List.flatMap_append, List.foldl_append]
    simp
theorem fGat_D {s n k : Int} : ∀ (rem : Nat) (dep : Int) (L : Int → Int) (e : Int) (q : (Int → Int) × Int), fGat s n k rem dep L e q = (fD s n k rem dep (L, e)).foldl fRO q
  | 0, dep, L, e, q => by
    unfold fGat fD
    show _ = List.foldl fRO q (if fLen s n k L e = dep then [fCode s n L e] else [])
    split <;> rfl
  | rem + 1, dep, L, e, q => by
    unfold fGat fD
    show _ = List.foldl fRO q (if fLen s n k L e = dep then (List.range 4).flatMap (fun c : Nat => if (fGo s n k L e (c : Int)).1 = true then fD s n k rem (dep + 1) (fGo s n k L e (c : Int)).2 else []) else [])
    split
    · refine fIt_fold (G := fun c : Nat => if (fGo s n k L e (c : Int)).1 = true then fD s n k rem (dep + 1) (fGo s n k L e (c : Int)).2 else []) (fun q c => ?_) q 4
      show (if (fGo s n k L e (c : Int)).1 = true then _ else q) = List.foldl fRO q (if (fGo s n k L e (c : Int)).1 = true then fD s n k rem (dep + 1) (fGo s n k L e (c : Int)).2 else [])
      split
      · exact fGat_D rem (dep + 1) _ _ q
      · rfl
    · rfl
theorem fD_mem {s n k x : Int} (h : fS s n k) : ∀ (rem : Nat) (dep : Int) (w : (Int → Int) × Int), fL n k w.1 → fC s n w.2 → fLen s n k w.1 w.2 = dep → (x ∈ fD s n k rem dep w ↔ ∃ cs : List Int, cs.length = rem ∧ (∀ c ∈ cs, 0 ≤ c ∧ c < 4) ∧ fLen s n k (rn s n k w cs).1 (rn s n k w cs).2 = dep + rem ∧ x = fCode s n (rn s n k w cs).1 (rn s n k w cs).2)
  | 0, dep, w, hL, he, hd => by
    unfold fD
    rw [if_pos hd, List.mem_singleton]
    constructor
    · intro hx
      exact ⟨[], rfl, fun c hc => (by cases hc), by show fLen s n k w.1 w.2 = dep + ((0 : Nat) : Int); omega, hx⟩
    · rintro ⟨cs, h1, -, -, h4⟩
      have e : cs = [] := List.length_eq_zero_iff.mp h1
      subst e
      exact h4
  | rem + 1, dep, w, hL, he, hd => by
    unfold fD
    rw [if_pos hd, List.mem_flatMap]
    constructor
    · rintro ⟨c, hc, hx⟩
      have hc := List.mem_range.mp hc
      by_cases g1 : (fGo s n k w.1 w.2 (c : Int)).1 = true
      · rw [if_pos g1] at hx
        have g := fGo_ok (c := (c : Int)) h hL he
        by_cases gl : fLen s n k (fGo s n k w.1 w.2 (c : Int)).2.1 (fGo s n k w.1 w.2 (c : Int)).2.2 = dep + 1
        · obtain ⟨cs, h1, h2, h3, h4⟩ := (fD_mem h rem (dep + 1) (fGo s n k w.1 w.2 (c : Int)).2 g.1 g.2 gl).mp hx
          refine ⟨(c : Int) :: cs, by rw [List.length_cons, h1], fun d hd2 => ?_, ?_, h4⟩
          · rcases List.mem_cons.mp hd2 with e | e
            · subst e; omega
            · exact h2 d e
          · show fLen s n k (rn s n k (fGo s n k w.1 w.2 (c : Int)).2 cs).1 (rn s n k (fGo s n k w.1 w.2 (c : Int)).2 cs).2 = dep + ((rem + 1 : Nat) : Int)
            omega
        · exfalso
          cases rem with
          | zero =>
            unfold fD at hx
            rw [if_neg gl] at hx
            cases hx
          | succ r =>
            unfold fD at hx
            rw [if_neg gl] at hx
            cases hx
      · rw [if_neg g1] at hx
        cases hx
    · rintro ⟨cs, h1, h2, h3, h4⟩
      cases cs with
      | nil => cases h1
      | cons c cs =>
        have hc := h2 c List.mem_cons_self
        have g := fGo_ok (c := c) h hL he
        have l1 := lip (c := c) h hL he
        have l2 := rn_len h cs (fGo s n k w.1 w.2 c).2 g.1 g.2
        have h3 : fLen s n k (rn s n k (fGo s n k w.1 w.2 c).2 cs).1 (rn s n k (fGo s n k w.1 w.2 c).2 cs).2 = dep + ((rem + 1 : Nat) : Int) := h3
        have h1 : cs.length = rem := by rw [List.length_cons] at h1; omega
        have gl : fLen s n k (fGo s n k w.1 w.2 c).2.1 (fGo s n k w.1 w.2 c).2.2 = dep + 1 := by omega
        have g1 : (fGo s n k w.1 w.2 c).1 = true := by
          cases q : (fGo s n k w.1 w.2 c).1 with
          | true => rfl
          | false =>
            exfalso
            have := fGo_no q
            rw [this] at gl
            have gl : fLen s n k w.1 w.2 = dep + 1 := gl
            omega
        refine ⟨c.toNat, List.mem_range.mpr (by omega), ?_⟩
        rw [show ((c.toNat : Nat) : Int) = c by omega, if_pos g1]
        exact (fD_mem h rem (dep + 1) (fGo s n k w.1 w.2 c).2 g.1 g.2 gl).mpr ⟨cs, h1, fun d hd2 => h2 d (List.mem_cons_of_mem _ hd2), by omega, h4⟩
theorem flat_len {G : Nat → List Int} {B : Nat} (h : ∀ c, (G c).length ≤ B) : ∀ v : Nat, ((List.range v).flatMap G).length ≤ v * B
  | 0 => by simp
  | v + 1 => by
    have ih := flat_len h v
    have h1 := h v
    rw [List.range_succ, List.flatMap_append, List.length_append, Nat.succ_mul, show [v].flatMap G = G v by simp]
    omega
theorem flat_len1 {G : Nat → List Int} {B a : Nat} (h : ∀ c, (G c).length ≤ B) (ha : G a = []) : ∀ v : Nat, a < v → ((List.range v).flatMap G).length ≤ (v - 1) * B
  | 0, h1 => by omega
  | v + 1, h1 => by
    have hv := h v
    rw [List.range_succ, List.flatMap_append, List.length_append]
    by_cases e : a = v
    · subst e
      have := flat_len h a
      rw [show [a].flatMap G = [] by simp [ha]]
      show _ + 0 ≤ a * B
      omega
    · have ih := flat_len1 h ha v (by omega)
      obtain ⟨u, rfl⟩ : ∃ u, v = u + 1 := ⟨v - 1, by omega⟩
      have e2 : (u + 1 + 1 - 1) * B = (u + 1 - 1) * B + B := by
        rw [show u + 1 + 1 - 1 = u + 1 by omega, show u + 1 - 1 = u by omega, Nat.succ_mul]
      rw [e2, show [u + 1].flatMap G = G (u + 1) by simp]
      omega
theorem fD_len {s n k : Int} (h : fS s n k) : ∀ (rem : Nat) (dep : Int) (w : (Int → Int) × Int), fL n k w.1 → fC s n w.2 → (fD s n k rem dep w).length ≤ 4 ^ rem ∧ ((∃ c : Nat, c < 4 ∧ (fGo s n k w.1 w.2 (c : Int)).1 = true ∧ fLen s n k (fGo s n k w.1 w.2 (c : Int)).2.1 (fGo s n k w.1 w.2 (c : Int)).2.2 ≠ dep + 1) → (fD s n k rem dep w).length ≤ 3 ^ rem)
  | 0, dep, w, _, _ => by
    unfold fD
    split
    · exact ⟨Nat.le_refl 1, fun _ => Nat.le_refl 1⟩
    · exact ⟨Nat.zero_le _, fun _ => Nat.zero_le _⟩
  | rem + 1, dep, w, hL, he => by
    unfold fD
    by_cases hd : fLen s n k w.1 w.2 = dep
    · rw [if_pos hd]
      have nil : ∀ (w' : (Int → Int) × Int), fLen s n k w'.1 w'.2 ≠ dep + 1 → fD s n k rem (dep + 1) w' = [] := by
        intro w' hw
        cases rem with
        | zero => unfold fD; rw [if_neg hw]
        | succ r => unfold fD; rw [if_neg hw]
      have each : ∀ c : Nat, ((fun c : Nat => if (fGo s n k w.1 w.2 (c : Int)).1 = true then fD s n k rem (dep + 1) (fGo s n k w.1 w.2 (c : Int)).2 else []) c).length ≤ 3 ^ rem := by
        intro c
        show (if (fGo s n k w.1 w.2 (c : Int)).1 = true then fD s n k rem (dep + 1) (fGo s n k w.1 w.2 (c : Int)).2 else []).length ≤ 3 ^ rem
        by_cases g1 : (fGo s n k w.1 w.2 (c : Int)).1 = true
        · rw [if_pos g1]
          have g := fGo_ok (c := (c : Int)) h hL he
          refine (fD_len h rem (dep + 1) (fGo s n k w.1 w.2 (c : Int)).2 g.1 g.2).2 ⟨(fX (c : Int)).toNat, ?_, ?_⟩
          · have := fX_i (c : Int); omega
          · have := fX_i (c : Int)
            rw [show (((fX (c : Int)).toNat : Nat) : Int) = fX (c : Int) by omega, fGo_back h hL he g1]
            refine ⟨rfl, ?_⟩
            show fLen s n k w.1 w.2 ≠ dep + 1 + 1
            omega
        · rw [if_neg g1]
          exact Nat.zero_le _
      constructor
      · have := flat_len each 4
        have h3 : 3 ^ rem ≤ 4 ^ rem := Nat.pow_le_pow_left (by decide) rem
        rw [Nat.pow_succ]
        omega
      · rintro ⟨c, hc, g1, g2⟩
        have := flat_len1 each (a := c) (by
          show (if (fGo s n k w.1 w.2 (c : Int)).1 = true then fD s n k rem (dep + 1) (fGo s n k w.1 w.2 (c : Int)).2 else []) = []
          rw [if_pos g1]
          exact nil _ g2) 4 hc
        rw [Nat.pow_succ]
        omega
    · rw [if_neg hd]
      exact ⟨Nat.zero_le _, fun _ => Nat.zero_le _⟩
theorem fD_324 {s n k : Int} (h : fS s n k) (rem : Nat) (hr : rem ≤ 5) : (fD s n k rem 0 (fun _ => 0, 0)).length ≤ 324 := by
  cases rem with
  | zero =>
    have := (fD_len h 0 0 (fun _ => 0, 0) (fL_0 h) (fC_0 h)).1
    have e : 4 ^ 0 = 1 := rfl
    omega
  | succ r =>
    unfold fD
    have h0 := len_0 h
    rw [if_pos h0]
    have := flat_len (G := fun c : Nat => if (fGo s n k (fun _ => 0) 0 (c : Int)).1 = true then fD s n k r (0 + 1) (fGo s n k (fun _ => 0) 0 (c : Int)).2 else []) (B := 81) (fun c => by
      show (if (fGo s n k (fun _ => 0) 0 (c : Int)).1 = true then fD s n k r (0 + 1) (fGo s n k (fun _ => 0) 0 (c : Int)).2 else []).length ≤ 81
      by_cases g1 : (fGo s n k (fun _ => 0) 0 (c : Int)).1 = true
      · rw [if_pos g1]
        have g := fGo_ok (c := (c : Int)) h (fL_0 h) (fC_0 h)
        have q := (fD_len h r (0 + 1) (fGo s n k (fun _ => 0) 0 (c : Int)).2 g.1 g.2).2 ⟨(fX (c : Int)).toNat, by have := fX_i (c : Int); omega, by
          have := fX_i (c : Int)
          rw [show (((fX (c : Int)).toNat : Nat) : Int) = fX (c : Int) by omega, fGo_back h (fL_0 h) (fC_0 h) g1]
          refine ⟨rfl, ?_⟩
          show fLen s n k (fun _ => 0) 0 ≠ 0 + 1 + 1
          omega⟩
        have : 3 ^ r ≤ 3 ^ 4 := Nat.pow_le_pow_right (by decide) (by omega)
        omega
      · rw [if_neg g1]
        exact Nat.zero_le _) 4
    exact Nat.le_trans this (by decide)
end C47
