/-! PATHS round a ring: a place and which lit corners were come by -/
section C42
variable {sc : Nat × (Nat → Int32)} {d M pc pc' : Nat} {ls st : List Value} {σ : jx_H} {Q : Option Value → jx_H → Prop} {lst : List (Nat × Instr × Nat)} {own mx : Nat} {isi : Bool} {rt : Option FieldType}
def iOr (a b : Int) : Int := ((a.toNat ||| b.toNat : Nat) : Int)
def iAnd (a b : Int) : Int := ((a.toNat &&& b.toNat : Nat) : Int)
def i2 (a : Int) : Int := ((2 ^ a.toNat : Nat) : Int)
theorem jI_nat {a : Int} (h0 : 0 ≤ a) (h1 : a ≤ 2147483647) : (BitVec.ofInt 32 a).toNat = a.toNat := by
  rw [BitVec.toNat_ofInt]
  have e : ((2 ^ 32 : Nat) : Int) = 4294967296 := by decide
  rw [e, Int.emod_eq_of_lt h0 (by omega)]
theorem iOr_i {a b : Int} (h1 : a < 256) (h2 : b < 256) : 0 ≤ iOr a b ∧ iOr a b < 256 := by
  have : a.toNat ||| b.toNat < 2 ^ 8 := Nat.or_lt_two_pow (by omega) (by omega)
  unfold iOr
  omega
theorem iAnd_i {a b : Int} (h0 : 0 ≤ a) : 0 ≤ iAnd a b ∧ iAnd a b ≤ a := by
  have : a.toNat &&& b.toNat ≤ a.toNat := Nat.and_le_left
  unfold iAnd
  omega
theorem jI_or {a b : Int} (h0 : 0 ≤ a) (h1 : a ≤ 2147483647) (h2 : 0 ≤ b) (h3 : b ≤ 2147483647) : jI a ||| jI b = jI (iOr a b) := by
  apply Int32.toBitVec_inj.mp
  apply BitVec.eq_of_toNat_eq
  rw [Int32.toBitVec_or]
  show (BitVec.ofInt 32 a ||| BitVec.ofInt 32 b).toNat = (BitVec.ofInt 32 (iOr a b)).toNat
  have h4 : a.toNat ||| b.toNat < 2 ^ 31 := Nat.or_lt_two_pow (by omega) (by omega)
  rw [BitVec.toNat_or, jI_nat h0 h1, jI_nat h2 h3, jI_nat (by unfold iOr; omega) (by unfold iOr; omega)]
  unfold iOr
  omega
theorem jI_and {a b : Int} (h0 : 0 ≤ a) (h1 : a ≤ 2147483647) (h2 : 0 ≤ b) (h3 : b ≤ 2147483647) : jI a &&& jI b = jI (iAnd a b) := by
  apply Int32.toBitVec_inj.mp
  apply BitVec.eq_of_toNat_eq
  rw [Int32.toBitVec_and]
  show (BitVec.ofInt 32 a &&& BitVec.ofInt 32 b).toNat = (BitVec.ofInt 32 (iAnd a b)).toNat
  have h4 := iAnd_i (b := b) h0
  rw [BitVec.toNat_and, jI_nat h0 h1, jI_nat h2 h3, jI_nat (by omega) (by omega)]
  unfold iAnd
  omega
theorem je_ior (hB : jx_B M lst own isi rt mx) {a b : Int} {len : Nat} (hI : jx_lk lst pc = some (.ior, len)) (hp : pc + 1 = pc') (h0 : 0 ≤ a) (h1 : a ≤ 2147483647) (h2 : 0 ≤ b) (h3 : b ≤ 2147483647) (k : je sc d M pc' ls (.int (jI (iOr a b)) :: st) σ Q) : je sc d M pc ls (.int (jI b) :: .int (jI a) :: st) σ Q := by
  subst hp
  exact je_p1 hB hI (by simp only [jx_pure, jI_or h0 h1 h2 h3]) k
theorem je_iand2 (hB : jx_B M lst own isi rt mx) {a b : Int} {len : Nat} (hI : jx_lk lst pc = some (.iand, len)) (hp : pc + 1 = pc') (h0 : 0 ≤ a) (h1 : a ≤ 2147483647) (h2 : 0 ≤ b) (h3 : b ≤ 2147483647) (k : je sc d M pc' ls (.int (jI (iAnd a b)) :: st) σ Q) : je sc d M pc ls (.int (jI b) :: .int (jI a) :: st) σ Q := by
  subst hp
  exact je_p1 hB hI (by simp only [jx_pure, jI_and h0 h1 h2 h3]) k
theorem je_ishl1 (hB : jx_B M lst own isi rt mx) {b : Int} {len : Nat} (hI : jx_lk lst pc = some (.ishl, len)) (hp : pc + 1 = pc') (h2 : 0 ≤ b) (h3 : b ≤ 12) (k : je sc d M pc' ls (.int (jI (i2 b)) :: st) σ Q) : je sc d M pc ls (.int (jI b) :: .int (jI 1) :: st) σ Q := by
  subst hp
  refine je_p1 hB hI ?_ k
  rcases (by omega : b = 0 ∨ b = 1 ∨ b = 2 ∨ b = 3 ∨ b = 4 ∨ b = 5 ∨ b = 6 ∨ b = 7 ∨ b = 8 ∨ b = 9 ∨ b = 10 ∨ b = 11 ∨ b = 12) with h | h | h | h | h | h | h | h | h | h | h | h | h <;> subst h <;> rfl
theorem i2_i {b : Int} (h0 : 0 ≤ b) (h1 : b ≤ 12) : 1 ≤ i2 b ∧ i2 b ≤ 4096 := by
  rcases (by omega : b = 0 ∨ b = 1 ∨ b = 2 ∨ b = 3 ∨ b = 4 ∨ b = 5 ∨ b = 6 ∨ b = 7 ∨ b = 8 ∨ b = 9 ∨ b = 10 ∨ b = 11 ∨ b = 12) with h | h | h | h | h | h | h | h | h | h | h | h | h <;> subst h <;> decide
/-- which corners are lit -/
def aM (L : Int → Int) : Nat → Int
  | 0 => 0
  | v + 1 => iOr (aM L v) (if 0 < L (v : Int) then i2 (v : Int) else 0)
theorem i2_7 {v : Nat} (h : v < 8) : i2 (v : Int) < 256 := by
  rcases (by omega : v = 0 ∨ v = 1 ∨ v = 2 ∨ v = 3 ∨ v = 4 ∨ v = 5 ∨ v = 6 ∨ v = 7) with h | h | h | h | h | h | h | h <;> subst h <;> decide
theorem aM_i {L : Int → Int} : ∀ v : Nat, v ≤ 8 → 0 ≤ aM L v ∧ aM L v < 256
  | 0, _ => by show (0 : Int) ≤ 0 ∧ (0 : Int) < 256; decide
  | v + 1, h => by
    have q := aM_i (L := L) v (by omega)
    have q2 := i2_7 (v := v) (by omega)
    refine iOr_i q.2 ?_
    split
    · exact q2
    · decide
theorem aM_bit {L : Int → Int} (j : Nat) : ∀ v : Nat, (aM L v).toNat.testBit j = true ↔ j < v ∧ 0 < L (j : Int)
  | 0 => by
    show (0 : Nat).testBit j = true ↔ _
    rw [Nat.zero_testBit]
    simp
  | v + 1 => by
    have ih := aM_bit (L := L) j v
    show (iOr (aM L v) (if 0 < L (v : Int) then i2 (v : Int) else 0)).toNat.testBit j = true ↔ _
    unfold iOr
    rw [Int.toNat_natCast, Nat.testBit_or, Bool.or_eq_true, ih]
    by_cases h : 0 < L (v : Int)
    · rw [if_pos h]
      unfold i2
      rw [Int.toNat_natCast, Int.toNat_natCast, Nat.testBit_two_pow, decide_eq_true_eq]
      constructor
      · rintro (⟨h1, h2⟩ | h1)
        · exact ⟨by omega, h2⟩
        · subst h1; exact ⟨by omega, h⟩
      · rintro ⟨h1, h2⟩
        by_cases e : v = j
        · exact Or.inr e
        · exact Or.inl ⟨by omega, h2⟩
    · rw [if_neg h, show (0 : Int).toNat = 0 from rfl, Nat.zero_testBit]
      constructor
      · rintro (⟨h1, h2⟩ | h1)
        · exact ⟨by omega, h2⟩
        · cases h1
      · rintro ⟨h1, h2⟩
        refine Or.inl ⟨?_, h2⟩
        by_cases e : j = v
        · subst e; exact absurd h2 h
        · omega
/-- one step on -/
def bI (n A x b : Int) : Int := 256 * ((x / 256 + b) % n) + iOr (x % 256) (iAnd A (i2 ((x / 256 + b) % n)))
def pR (n A s0 : Int) : Nat → Int → Prop
  | 0, x => x = s0
  | i + 1, x => ∃ y, pR n A s0 i y ∧ (x = bI n A y (-1) ∨ x = bI n A y 1)
def Cov (n A c x g lo hi : Int) : Prop := (0 ≤ lo ∧ 0 ≤ hi ∧ -lo ≤ g ∧ g ≤ hi) ∧ x / 256 = (c + g) % n ∧ ∀ j : Nat, (x % 256).toNat.testBit j = true ↔ (A.toNat.testBit j = true ∧ ∃ t : Int, -lo ≤ t ∧ t ≤ hi ∧ (c + t) % n = (j : Int))
theorem bI_parts {n A x b : Int} (hA : 0 ≤ A ∧ A < 256) : bI n A x b / 256 = (x / 256 + b) % n ∧ bI n A x b % 256 = iOr (x % 256) (iAnd A (i2 ((x / 256 + b) % n))) := by
  have h1 := iAnd_i (b := i2 ((x / 256 + b) % n)) hA.1
  have h2 := iOr_i (a := x % 256) (b := iAnd A (i2 ((x / 256 + b) % n))) (by omega) (by omega)
  unfold bI
  omega
theorem cov_bit {n A c x b g lo hi lo' hi' : Int} (hn : 3 ≤ n ∧ n ≤ 8) (hA : 0 ≤ A ∧ A < 256) (C : Cov n A c x g lo hi) (hr : ∀ t : Int, (-lo' ≤ t ∧ t ≤ hi') ↔ ((-lo ≤ t ∧ t ≤ hi) ∨ t = g + b)) (h2 : 0 ≤ lo' ∧ 0 ≤ hi' ∧ -lo' ≤ g + b ∧ g + b ≤ hi') : Cov n A c (bI n A x b) (g + b) lo' hi' := by
  obtain ⟨-, c2, c3⟩ := C
  obtain ⟨p1, p2⟩ := bI_parts (n := n) (x := x) (b := b) hA
  have e1 : (x / 256 + b) % n = (c + (g + b)) % n := by
    rw [c2, Int.emod_add_emod, Int.add_assoc]
  have r0 := Int.emod_nonneg (c + (g + b)) (show n ≠ 0 by omega)
  refine ⟨h2, by rw [p1, e1], fun j => ?_⟩
  rw [p2, e1]
  unfold iOr
  rw [Int.toNat_natCast, Nat.testBit_or, Bool.or_eq_true, c3 j]
  unfold iAnd i2
  rw [Int.toNat_natCast, Int.toNat_natCast, Nat.testBit_and, Nat.testBit_two_pow, Bool.and_eq_true, decide_eq_true_eq]
  constructor
  · rintro (⟨h3, t, t1, t2, t3⟩ | ⟨h3, h4⟩)
    · have := (hr t).mpr (Or.inl ⟨t1, t2⟩)
      exact ⟨h3, t, this.1, this.2, t3⟩
    · have := (hr (g + b)).mpr (Or.inr rfl)
      exact ⟨h3, g + b, this.1, this.2, by omega⟩
  · rintro ⟨h3, t, t1, t2, t3⟩
    rcases (hr t).mp ⟨t1, t2⟩ with q | q
    · exact Or.inl ⟨h3, t, q.1, q.2, t3⟩
    · subst q
      exact Or.inr ⟨h3, by omega⟩
theorem cov_up {n A c x g lo hi : Int} (hn : 3 ≤ n ∧ n ≤ 8) (hA : 0 ≤ A ∧ A < 256) (C : Cov n A c x g lo hi) : Cov n A c (bI n A x 1) (g + 1) lo (max hi (g + 1)) := by
  have c1 := C.1
  exact cov_bit hn hA C (fun t => by omega) (by omega)
theorem cov_down {n A c x g lo hi : Int} (hn : 3 ≤ n ∧ n ≤ 8) (hA : 0 ≤ A ∧ A < 256) (C : Cov n A c x g lo hi) : Cov n A c (bI n A x (-1)) (g + -1) (max lo (-(g + -1))) hi := by
  have c1 := C.1
  exact cov_bit hn hA C (fun t => by omega) (by omega)
theorem path_cov {n A c s0 : Int} (hn : 3 ≤ n ∧ n ≤ 8) (hA : 0 ≤ A ∧ A < 256) (C0 : Cov n A c s0 0 0 0) : ∀ (i : Nat) (x : Int), pR n A s0 i x → ∃ g lo hi, Cov n A c x g lo hi ∧ 2 * lo + 2 * hi - jabs g ≤ (i : Int)
  | 0, x, h => by
    have h : x = s0 := h
    subst h
    exact ⟨0, 0, 0, C0, by decide⟩
  | i + 1, x, h => by
    obtain ⟨y, hy, h⟩ := h
    obtain ⟨g, lo, hi, C, hc⟩ := path_cov hn hA C0 i y hy
    have c1 := C.1
    have j0 := jabs_c g
    rcases h with h | h
    · subst h
      have j1 := jabs_c (g + -1)
      exact ⟨_, _, _, cov_down hn hA C, by omega⟩
    · subst h
      have j1 := jabs_c (g + 1)
      exact ⟨_, _, _, cov_up hn hA C, by omega⟩
theorem run_up {n A c s0 : Int} (hn : 3 ≤ n ∧ n ≤ 8) (hA : 0 ≤ A ∧ A < 256) {i : Nat} {x g lo hi : Int} (hp : pR n A s0 i x) (C : Cov n A c x g lo hi) : ∀ q : Nat, ∃ x', pR n A s0 (i + q) x' ∧ Cov n A c x' (g + (q : Int)) lo (max hi (g + (q : Int)))
  | 0 => ⟨x, hp, by
    have c1 := C.1
    rw [show g + ((0 : Nat) : Int) = g by omega, show max hi g = hi by omega]
    exact C⟩
  | q + 1 => by
    obtain ⟨x', h1, h2⟩ := run_up hn hA hp C q
    have c1 := C.1
    refine ⟨bI n A x' 1, ⟨x', h1, Or.inr rfl⟩, ?_⟩
    have h3 := cov_up hn hA h2
    rw [show g + ((q + 1 : Nat) : Int) = g + (q : Int) + 1 by omega, show max hi (g + (q : Int) + 1) = max (max hi (g + (q : Int))) (g + (q : Int) + 1) by omega]
    exact h3
theorem run_down {n A c s0 : Int} (hn : 3 ≤ n ∧ n ≤ 8) (hA : 0 ≤ A ∧ A < 256) {i : Nat} {x g lo hi : Int} (hp : pR n A s0 i x) (C : Cov n A c x g lo hi) : ∀ q : Nat, ∃ x', pR n A s0 (i + q) x' ∧ Cov n A c x' (g - (q : Int)) (max lo (-(g - (q : Int)))) hi
  | 0 => ⟨x, hp, by
    have c1 := C.1
    rw [show g - ((0 : Nat) : Int) = g by omega, show max lo (-g) = lo by omega]
    exact C⟩
  | q + 1 => by
    obtain ⟨x', h1, h2⟩ := run_down hn hA hp C q
    have c1 := C.1
    refine ⟨bI n A x' (-1), ⟨x', h1, Or.inl rfl⟩, ?_⟩
    have h3 := cov_down hn hA h2
    rw [show g - ((q + 1 : Nat) : Int) = g - (q : Int) + -1 by omega, show max lo (-(g - (q : Int) + -1)) = max (max lo (-(g - (q : Int)))) (-(g - (q : Int) + -1)) by omega]
    exact h3
/-- as far down and up as one likes -/
theorem path_to {n A c s0 lo hi g : Int} (hn : 3 ≤ n ∧ n ≤ 8) (hA : 0 ≤ A ∧ A < 256) (C0 : Cov n A c s0 0 0 0) (hl : 0 ≤ lo) (hh : 0 ≤ hi) (h1 : -lo ≤ g) (h2 : g ≤ hi) : ∃ (i : Nat) (x : Int), pR n A s0 i x ∧ Cov n A c x g lo hi ∧ (i : Int) = 2 * lo + 2 * hi - jabs g := by
  have j0 := jabs_c g
  have hp : pR n A s0 0 s0 := rfl
  by_cases h : 0 ≤ g
  · obtain ⟨x1, a1, b1⟩ := run_down hn hA hp C0 lo.toNat
    obtain ⟨x2, a2, b2⟩ := run_up hn hA a1 b1 (lo + hi).toNat
    obtain ⟨x3, a3, b3⟩ := run_down hn hA a2 b2 (hi - g).toNat
    refine ⟨_, x3, a3, ?_, by omega⟩
    rw [show (0 : Int) - (lo.toNat : Int) + ((lo + hi).toNat : Int) - ((hi - g).toNat : Int) = g by omega, show max (max 0 (-(0 - (lo.toNat : Int)))) (-g) = lo by omega, show max 0 ((0 : Int) - (lo.toNat : Int) + ((lo + hi).toNat : Int)) = hi by omega] at b3
    exact b3
  · obtain ⟨x1, a1, b1⟩ := run_up hn hA hp C0 hi.toNat
    obtain ⟨x2, a2, b2⟩ := run_down hn hA a1 b1 (lo + hi).toNat
    obtain ⟨x3, a3, b3⟩ := run_up hn hA a2 b2 (lo + g).toNat
    refine ⟨_, x3, a3, ?_, by omega⟩
    rw [show (0 : Int) + (hi.toNat : Int) - ((lo + hi).toNat : Int) + ((lo + g).toNat : Int) = g by omega, show max 0 (-((0 : Int) + (hi.toNat : Int) - ((lo + hi).toNat : Int))) = lo by omega, show max (max 0 ((0 : Int) + (hi.toNat : Int))) g = hi by omega] at b3
    exact b3
def rS (n A c : Int) : Int := 256 * c + iAnd A (i2 c)
theorem rS_parts {n A c : Int} (hA : 0 ≤ A ∧ A < 256) : rS n A c / 256 = c ∧ rS n A c % 256 = iAnd A (i2 c) := by
  have h1 := iAnd_i (b := i2 c) hA.1
  unfold rS
  omega
theorem cov_0 {n A c : Int} (hA : 0 ≤ A ∧ A < 256) (hc : 0 ≤ c ∧ c < n) : Cov n A c (rS n A c) 0 0 0 := by
  obtain ⟨p1, p2⟩ := rS_parts (n := n) (c := c) hA
  refine ⟨by decide, by rw [p1, Int.add_zero, Int.emod_eq_of_lt hc.1 hc.2], fun j => ?_⟩
  rw [p2]
  unfold iAnd i2
  rw [Int.toNat_natCast, Int.toNat_natCast, Nat.testBit_and, Nat.testBit_two_pow, Bool.and_eq_true, decide_eq_true_eq]
  constructor
  · rintro ⟨h1, h2⟩
    refine ⟨h1, 0, by decide, by decide, ?_⟩
    rw [Int.add_zero, Int.emod_eq_of_lt hc.1 hc.2]
    omega
  · rintro ⟨h1, t, t1, t2, t3⟩
    refine ⟨h1, ?_⟩
    rw [show t = 0 by omega, Int.add_zero, Int.emod_eq_of_lt hc.1 hc.2] at t3
    omega
/-- a shortest path is as long as the tour -/
theorem path_len {n k e c : Int} {L : Int → Int} (h : fS 1 n k) (hL : fL n k L) (he : fC 1 n e) (hc : fC 1 n c) : (∃ i : Nat, (i : Int) ≤ fTour 1 n L e c ∧ pR n (aM L n.toNat) (rS n (aM L n.toNat) c) i (256 * e + aM L n.toNat)) ∧ ∀ i : Nat, pR n (aM L n.toNat) (rS n (aM L n.toNat) c) i (256 * e + aM L n.toNat) → fTour 1 n L e c ≤ (i : Int) := by
  have gs := h
  unfold fS at gs
  have hn : 3 ≤ n ∧ n ≤ 8 := by omega
  have hA := aM_i (L := L) n.toNat (by omega)
  have he' := he
  have hc' := hc
  unfold fC at he' hc'
  rw [show fLo 1 = 0 from rfl] at he' hc'
  have C0 := cov_0 (n := n) hA (c := c) (by omega)
  constructor
  · obtain ⟨lo, hi, g, T, hT⟩ := tour_at h hL he hc
    obtain ⟨⟨t1, t2, t3, t4⟩, t5, t6⟩ := T
    rw [fRd_1] at t5
    obtain ⟨i, x, a1, a2, a3⟩ := path_to hn hA C0 t1 t2 t3 t4
    refine ⟨i, by omega, ?_⟩
    have ex : x = 256 * e + aM L n.toNat := by
      have b1 : (x % 256).toNat = (aM L n.toNat).toNat := by
        apply Nat.eq_of_testBit_eq
        intro j
        apply Bool.eq_iff_iff.mpr
        rw [a2.2.2 j]
        constructor
        · exact fun q => q.1
        · intro q
          refine ⟨q, ?_⟩
          have q2 := (aM_bit j n.toNat).mp q
          obtain ⟨t, u1, u2, u3⟩ := t6 (j : Int) (by omega) (by omega) q2.2
          rw [fRd_1, show fLo 1 = 0 from rfl, Int.zero_add] at u3
          exact ⟨t, u1, u2, u3⟩
      have b2 := a2.2.1
      rw [t5] at b2
      omega
    rwa [← ex]
  · intro i hp
    obtain ⟨g, lo, hi, C, hcost⟩ := path_cov hn hA C0 i _ hp
    have b1 : (256 * e + aM L n.toNat) / 256 = e ∧ (256 * e + aM L n.toNat) % 256 = aM L n.toNat := by omega
    have C2 := C.2.1
    rw [b1.1] at C2
    refine Int.le_trans (tour_up h hL he hc ⟨C.1, by rw [fRd_1]; exact C2.symm, fun p p0 p1 hp => ?_⟩) hcost
    obtain ⟨j, hj⟩ := Int.eq_ofNat_of_zero_le p0
    subst hj
    have q := (C.2.2 j).mp (by rw [b1.2]; exact (aM_bit j n.toNat).mpr ⟨by omega, hp⟩)
    obtain ⟨-, t, u1, u2, u3⟩ := q
    exact ⟨t, u1, u2, by rw [fRd_1, show fLo 1 = 0 from rfl, Int.zero_add]; exact u3⟩
end C42
