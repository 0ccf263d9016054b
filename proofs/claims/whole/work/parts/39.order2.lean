/-! ORDERS: the first bare one -/
section C39
theorem fAll_iff {P : Nat → Bool} {N : Nat} : fAll P N = true ↔ ∀ q, q < N → P q = true := ⟨fun h _ hq => fAll_at h hq, fAll_t⟩
def gBr (n : Int) (L : Int → Int) (e : Int) : Bool := decide (e = 0) && fAll (fun p => decide (L (p : Int) = 0)) n.toNat
theorem gBr_iff {n e : Int} {L : Int → Int} : gBr n L e = true ↔ e = 0 ∧ ∀ p : Nat, p < n.toNat → L (p : Int) = 0 := by
  unfold gBr
  rw [Bool.and_eq_true, decide_eq_true_eq, fAll_iff]
  constructor
  · rintro ⟨h1, h2⟩
    exact ⟨h1, fun p hp => of_decide_eq_true (h2 p hp)⟩
  · rintro ⟨h1, h2⟩
    exact ⟨h1, fun p hp => decide_eq_true (h2 p hp)⟩
theorem fVan_iff {s k q many : Int} {L : Int → Int} : fVan s k L q many = true ↔ ∀ j : Nat, j < many.toNat → (fSm s k L (j : Int) many * q) % k = 0 := by
  unfold fVan
  rw [fAll_iff]
  exact ⟨fun h j hj => of_decide_eq_true (h j hj), fun h j hj => decide_eq_true (h j hj)⟩
theorem bool_ext {a b : Bool} (h : a = true ↔ b = true) : a = b := Bool.eq_iff_iff.mpr h
theorem oS_mul {n e : Int} {L : Int → Int} {x : Int} {R : Nat} (hR : ((R : Int) * e) % n = 0) : ∀ q : Nat, oS n L e x (R * q) = (q : Int) * oS n L e x R
  | 0 => by
    rw [Nat.mul_zero, show ((0 : Nat) : Int) = 0 from rfl, Int.zero_mul]
    rfl
  | q + 1 => by
    have ih := oS_mul (L := L) (x := x) hR q
    have hd : (R : Int) * e = n * ((R : Int) * e / n) := by
      have := Int.emod_add_mul_ediv ((R : Int) * e) n
      rw [hR] at this
      omega
    have e1 : fSum (fun p => L ((x - (((R * q : Nat) : Int) + p) * e) % n)) R = oS n L e x R := by
      refine fSum_c R (fun p _ => ?_)
      show L ((x - (((R * q : Nat) : Int) + (p : Int)) * e) % n) = L ((x - (p : Int) * e) % n)
      congr 1
      have e2 : ((R * q : Nat) : Int) * e = n * ((R : Int) * e / n * q) := by
        rw [← Int.mul_assoc, ← hd, Int.natCast_mul, Int.mul_assoc, Int.mul_assoc, Int.mul_comm (q : Int) e]
      rw [Int.add_mul, e2, show x - (n * ((R : Int) * e / n * q) + (p : Int) * e) = (x - (p : Int) * e) + n * (-((R : Int) * e / n * q)) by rw [Int.mul_neg]; omega, Int.add_mul_emod_self_left]
    show fSum (fun t => L ((x - t * e) % n)) (R * (q + 1)) = _
    rw [Nat.mul_succ, fSum_add]
    show oS n L e x (R * q) + fSum (fun p => L ((x - (((R * q : Nat) : Int) + p) * e) % n)) R = _
    rw [e1, ih, show ((q + 1 : Nat) : Int) = (q : Int) + 1 from rfl, Int.add_mul, Int.one_mul]
theorem oS_sum {n e x : Nat} {L : Int → Int} (hn : n < 9) (he : e < n) (hx : x < n) : oS n L e x (n / (fGcd (e : Int) (n : Int)).toNat) = fSum (fun p => if (p.toNat % (fGcd (e : Int) (n : Int)).toNat == x % (fGcd (e : Int) (n : Int)).toNat) = true then L p else 0) n := by
  have hp := List.isPerm_iff.mp (o_fin3 n hn e he x hx)
  rw [fSum_filter (fun c => c % (fGcd (e : Int) (n : Int)).toNat == x % (fGcd (e : Int) (n : Int)).toNat)]
  rw [← perm_sum (hp.map (fun p : Nat => L (p : Int)))]
  unfold oS
  rw [fSum_list, List.map_map]
  congr 1
  refine List.map_congr_left (fun t _ => ?_)
  show L (((x : Int) - (t : Int) * (e : Int)) % (n : Int)) = L (((((x : Int) - (t : Int) * (e : Int)) % (n : Int)).toNat : Nat) : Int)
  have := Int.emod_nonneg ((x : Int) - (t : Int) * (e : Int)) (show (n : Int) ≠ 0 by omega)
  rw [Int.toNat_of_nonneg this]
theorem fSm_ring {n e x : Nat} {k : Int} {L : Int → Int} (hn : n < 9) (he : e < n) (hL : fL (n : Int) k L) (hx : x < n) : fSm 1 k L ((x : Int) % fGcd (e : Int) (n : Int)) (fGcd (e : Int) (n : Int)) = oS n L e x (n / (fGcd (e : Int) (n : Int)).toNat) % k := by
  have hf := o_fin1 n hn e he
  obtain ⟨g, hg⟩ := Int.eq_ofNat_of_zero_le (show 0 ≤ fGcd (e : Int) (n : Int) by omega)
  rw [oS_sum hn he hx]
  unfold fSm fSm0
  congr 1
  rw [show (25 : Nat) = n + (25 - n) by omega, fSum_more]
  · refine fSum_c n (fun p hp => ?_)
    rw [hg]
    have e0 : fLo 1 = 0 := rfl
    rw [e0]
    have e1 : ((0 + (p : Int)) % (g : Int) = (x : Int) % (g : Int)) ↔ (p % g == x % g) = true := by
      rw [beq_iff_eq, Int.zero_add]
      omega
    by_cases h : (0 + (p : Int)) % (g : Int) = (x : Int) % (g : Int)
    · rw [if_pos h, if_pos]
      exact e1.mp h
    · rw [if_neg h, if_neg]
      exact fun q => h (e1.mpr q)
  · intro p h1 h2
    show (if (fLo 1 + (p : Int)) % _ = _ then L (p : Int) else 0) = 0
    rw [hL.2 p (by omega)]
    split <;> rfl
theorem bare_ring {n e : Nat} {k : Int} {L : Int → Int} (h : fS 1 (n : Int) k) (hL : fL (n : Int) k L) (he : e < n) {q j : Nat} (hj : j + 1 = n / (fGcd (e : Int) (n : Int)).toNat * q) : gBr n (oP 1 n k L e j).1 (oP 1 n k L e j).2 = fVan 1 k L (q : Int) (fGcd (e : Int) (n : Int)) := by
  have gs := h
  unfold fS at gs
  have hn : n < 9 := by omega
  have hf := o_fin1 n hn e he
  have hC : fC 1 (n : Int) (e : Int) := by unfold fC; rw [show fLo 1 = 0 from rfl]; omega
  have hp := oP_ring h hL hC j
  obtain ⟨g, hg⟩ := Int.eq_ofNat_of_zero_le (show 0 ≤ fGcd (e : Int) (n : Int) by omega)
  have hR : (((n / (fGcd (e : Int) (n : Int)).toNat : Nat) : Int) * (e : Int)) % (n : Int) = 0 := by
    refine (o_fin2 n hn e he _ ?_).mpr (Nat.mod_self _)
    have := Nat.div_le_self n (fGcd (e : Int) (n : Int)).toNat
    omega
  have key : ∀ x : Nat, x < n → (oP 1 n k L e j).1 (x : Int) = (fSm 1 k L ((x : Int) % fGcd (e : Int) (n : Int)) (fGcd (e : Int) (n : Int)) * (q : Int)) % k := by
    intro x hx
    rw [hp.2 x (by omega) (by omega), fSm_ring hn he hL hx, hj, oS_mul hR, Int.mul_emod (oS _ _ _ _ _ % k) (q : Int) k, Int.emod_emod, ← Int.mul_emod, Int.mul_comm]
  refine bool_ext ?_
  rw [gBr_iff, fVan_iff]
  constructor
  · rintro ⟨-, h2⟩ c hc
    have q1 := h2 c (by omega)
    rw [key c (by omega), Int.emod_eq_of_lt (a := (c : Int)) (b := fGcd (e : Int) (n : Int)) (by omega) (by omega)] at q1
    exact q1
  · intro h2
    refine ⟨?_, fun x hx => ?_⟩
    · rw [hp.1, show ((j : Int) + 1) = ((n / (fGcd (e : Int) (n : Int)).toNat * q : Nat) : Int) by omega, Int.natCast_mul, Int.mul_assoc, Int.mul_comm (q : Int), ← Int.mul_assoc]
      rw [Int.mul_emod, hR, Int.zero_mul, Int.zero_emod]
    · rw [key x (by omega)]
      have m1 := Int.emod_nonneg (x : Int) (show fGcd (e : Int) (n : Int) ≠ 0 by omega)
      have m2 := Int.emod_lt_of_pos (x : Int) (show 0 < fGcd (e : Int) (n : Int) by omega)
      have q1 := h2 ((x : Int) % fGcd (e : Int) (n : Int)).toNat (by omega)
      rw [Int.toNat_of_nonneg m1] at q1
      exact q1
theorem fVan_k {s k many : Int} {L : Int → Int} : fVan s k L k many = true := fVan_iff.mpr fun _ _ => Int.mul_emod_left _ _
/-- the first for which all vanishes -/
theorem fFst_lt {P : Nat → Bool} {N : Nat} (h : ∃ v, v < N ∧ P v = true) : fFst P 0 N < N ∧ P (fFst P 0 N) = true ∧ ∀ q, q < fFst P 0 N → P q = false := by
  have key : ∀ f p, (∃ v, p ≤ v ∧ v < p + f ∧ P v = true) → fFst P p f < p + f ∧ P (fFst P p f) = true ∧ ∀ q, p ≤ q → q < fFst P p f → P q = false := by
    intro f
    induction f with
    | zero => rintro p ⟨v, h1, h2, -⟩; omega
    | succ f ih =>
      rintro p ⟨v, h1, h2, h3⟩
      unfold fFst
      by_cases hp : P p = true
      · rw [if_pos hp]
        exact ⟨by omega, hp, fun q q1 q2 => by omega⟩
      · rw [if_neg hp]
        have hv : p ≠ v := fun e => hp (e ▸ h3)
        obtain ⟨i1, i2, i3⟩ := ih (p + 1) ⟨v, by omega, by omega, h3⟩
        refine ⟨by omega, i2, fun q q1 q2 => ?_⟩
        by_cases e : p = q
        · subst e
          exact Bool.not_eq_true _ ▸ hp
        · exact i3 q (by omega) q2
  obtain ⟨v, h1, h2⟩ := h
  obtain ⟨i1, i2, i3⟩ := key N 0 ⟨v, by omega, by omega, h2⟩
  exact ⟨by omega, i2, fun q hq => i3 q (by omega) hq⟩
theorem ord_ring {n e : Nat} {k : Int} {L : Int → Int} (h : fS 1 (n : Int) k) (hL : fL (n : Int) k L) (he : e < n) : ∃ N : Nat, N < 41 ∧ fOrd 1 n k L e = (N : Int) + 1 ∧ gBr n (oP 1 n k L e N).1 (oP 1 n k L e N).2 = true ∧ ∀ j, j < N → gBr n (oP 1 n k L e j).1 (oP 1 n k L e j).2 = false := by
  have gs := h
  unfold fS at gs
  have hn : n < 9 := by omega
  have hf := o_fin1 n hn e he
  have hC : fC 1 (n : Int) (e : Int) := by unfold fC; rw [show fLo 1 = 0 from rfl]; omega
  obtain ⟨g, hg⟩ := Int.eq_ofNat_of_zero_le (show 0 ≤ fGcd (e : Int) (n : Int) by omega)
  have hg1 : 1 ≤ g := by omega
  have hgn : g ≤ n := by omega
  have hM : fMany 1 (n : Int) (e : Int) = (g : Int) := by
    unfold fMany
    rw [if_neg (by decide), hg]
  have hR0 : 0 < n / g := Nat.div_pos hgn hg1
  have hRn : n / g ≤ n := Nat.div_le_self n g
  obtain ⟨i1, i2, i3⟩ := fFst_lt (P := fun q : Nat => fVan 1 k L ((q : Int) + 1) (if (1 : Int) = 0 then (n : Int) else fMany 1 (n : Int) (e : Int))) (N := k.toNat) ⟨k.toNat - 1, by omega, by rw [show (((k.toNat - 1 : Nat) : Int) + 1) = k by omega]; exact fVan_k⟩
  generalize hv : fFst (fun q : Nat => fVan 1 k L ((q : Int) + 1) (if (1 : Int) = 0 then (n : Int) else fMany 1 (n : Int) (e : Int))) 0 k.toNat = v at i1 i2 i3
  have ho := fOrd_at (L := L) (e := (e : Int)) (n := (n : Int)) (s := 1) (by rintro ⟨q, -⟩; cases q) i1 i2 i3
  rw [if_neg (by decide), hM] at ho i2
  have i3' : ∀ q : Nat, q < v → fVan 1 k L ((q : Int) + 1) (g : Int) = false := fun q hq => by
    have := i3 q hq
    rwa [if_neg (by decide), hM] at this
  have hv1 : n / g * (v + 1) ≤ 8 * 5 := Nat.mul_le_mul (by omega) (by omega)
  have hv0 : 0 < n / g * (v + 1) := Nat.mul_pos hR0 (by omega)
  have hgT : (fGcd (e : Int) (n : Int)).toNat = g := by omega
  refine ⟨n / g * (v + 1) - 1, by omega, ?_, ?_, ?_⟩
  · rw [ho, show max (g : Int) 1 = (g : Int) by omega]
    have e2 : (n : Int) / (g : Int) = ((n / g : Nat) : Int) := rfl
    rw [e2, show ((v : Int) + 1) = ((v + 1 : Nat) : Int) from rfl, ← Int.natCast_mul]
    omega
  · rw [bare_ring h hL he (q := v + 1) (by rw [hgT]; omega), hg]
    exact i2
  · intro j hj
    by_cases hd : (j + 1) % (n / g) = 0
    · obtain ⟨q, hq⟩ := Nat.dvd_of_mod_eq_zero hd
      have hq0 : q ≠ 0 := by
        intro q0
        rw [q0, Nat.mul_zero] at hq
        omega
      have hqv : q < v + 1 := Nat.lt_of_mul_lt_mul_left (a := n / g) (by omega)
      rw [bare_ring h hL he (q := q) (by rw [hgT]; exact hq), hg]
      have := i3' (q - 1) (by omega)
      rwa [show (((q - 1 : Nat) : Int) + 1) = (q : Int) by omega] at this
    · have h2 := (oP_ring h hL hC j).1
      have h3 : ¬ ((((j + 1 : Nat) : Int)) * (e : Int)) % (n : Int) = 0 := by
        rw [o_fin2 n hn e he (j + 1) (by omega), hgT]
        exact hd
      unfold gBr
      rw [h2, show ((j : Int) + 1) = ((j + 1 : Nat) : Int) from rfl, decide_eq_false h3]
      rfl
theorem fSum_one {L : Int → Int} {a : Nat} : ∀ v : Nat, fSum (fun p => if p = (a : Int) then L p else 0) v = if a < v then L (a : Int) else 0
  | 0 => rfl
  | v + 1 => by
    show fSum (fun p => if p = (a : Int) then L p else 0) v + (if (v : Int) = (a : Int) then L (v : Int) else 0) = _
    rw [fSum_one v]
    by_cases h : v = a
    · subst h
      rw [if_neg (by omega), if_pos rfl, if_pos (by omega), Int.zero_add]
    · rw [if_neg (show ¬ (v : Int) = (a : Int) by omega), Int.add_zero]
      by_cases h2 : a < v
      · rw [if_pos h2, if_pos (by omega)]
      · rw [if_neg h2, if_neg (by omega)]
theorem fSm_line {k : Int} {L : Int → Int} (hL : fL 25 k L) {j : Nat} (hj : j < 25) : fSm 0 k L (j : Int) 25 = L (((j + 12) % 25 : Nat) : Int) := by
  have q := hL.1 (((j + 12) % 25 : Nat) : Int)
  unfold fSm fSm0
  rw [fSum_c (g := fun p => if p = (((j + 12) % 25 : Nat) : Int) then L p else 0) 25 (fun p hp => ?_), fSum_one, if_pos (by omega), Int.emod_eq_of_lt q.1 q.2]
  have e0 : fLo 0 = -12 := rfl
  rw [e0]
  by_cases h : (p : Int) = (((j + 12) % 25 : Nat) : Int)
  · rw [if_pos h, if_pos (by omega)]
  · rw [if_neg h, if_neg (by omega)]
theorem bare_line {k : Int} {L : Int → Int} (h : fS 0 25 k) (hL : fL 25 k L) (j : Nat) : gBr 25 (oP 0 25 k L 0 j).1 (oP 0 25 k L 0 j).2 = fVan 0 k L ((j : Int) + 1) 25 := by
  have hp := oP_line h hL j
  refine bool_ext ?_
  rw [gBr_iff, fVan_iff]
  constructor
  · rintro ⟨-, h2⟩ c hc
    have q1 := h2 ((c + 12) % 25) (by omega)
    rw [hp.2 _ (by omega) (by omega)] at q1
    rw [fSm_line hL (by omega), Int.mul_comm]
    exact q1
  · intro h2
    refine ⟨hp.1, fun x hx => ?_⟩
    rw [hp.2 x (by omega) (by omega)]
    have q1 := h2 ((x + 13) % 25) (by omega)
    rw [fSm_line hL (by omega), Int.mul_comm, show (((x + 13) % 25 + 12) % 25 : Nat) = x by omega] at q1
    exact q1
theorem ord_line {k : Int} {L : Int → Int} (h : fS 0 25 k) (hL : fL 25 k L) : ∃ N : Nat, N < 41 ∧ fOrd 0 25 k L 0 = (N : Int) + 1 ∧ gBr 25 (oP 0 25 k L 0 N).1 (oP 0 25 k L 0 N).2 = true ∧ ∀ j, j < N → gBr 25 (oP 0 25 k L 0 j).1 (oP 0 25 k L 0 j).2 = false := by
  have gk : 2 ≤ k ∧ k ≤ 5 := h.2
  obtain ⟨i1, i2, i3⟩ := fFst_lt (P := fun q : Nat => fVan 0 k L ((q : Int) + 1) (if (0 : Int) = 0 then (25 : Int) else fMany 0 25 0)) (N := k.toNat) ⟨k.toNat - 1, by omega, by rw [show (((k.toNat - 1 : Nat) : Int) + 1) = k by omega]; exact fVan_k⟩
  generalize hv : fFst (fun q : Nat => fVan 0 k L ((q : Int) + 1) (if (0 : Int) = 0 then (25 : Int) else fMany 0 25 0)) 0 k.toNat = v at i1 i2 i3
  have ho := fOrd_at (L := L) (e := 0) (n := 25) (s := 0) (by rintro ⟨-, q⟩; exact q rfl) i1 i2 i3
  refine ⟨v, by omega, ?_, ?_, ?_⟩
  · rw [ho, if_pos rfl, show (25 : Int) / max 25 1 = 1 from by decide, Int.one_mul]
  · rw [bare_line h hL]
    exact i2
  · intro j hj
    rw [bare_line h hL]
    exact i3 j hj
theorem ord_all {s n k e : Int} {L : Int → Int} (h : fS s n k) (hL : fL n k L) (he : fC s n e) (hse : s = 0 → e = 0) : ∃ N : Nat, N < 41 ∧ fOrd s n k L e = (N : Int) + 1 ∧ gBr n (oP s n k L e N).1 (oP s n k L e N).2 = true ∧ ∀ j, j < N → gBr n (oP s n k L e j).1 (oP s n k L e j).2 = false := by
  have gs := h
  unfold fS at gs
  by_cases hs : s = 0
  · have e1 := hse hs
    subst hs; subst e1
    have hn : n = 25 := by omega
    subst hn
    exact ord_line h hL
  · have h1 : s = 1 := by omega
    subst h1
    unfold fC at he
    rw [show fLo 1 = 0 from rfl] at he
    obtain ⟨n', rfl⟩ := Int.eq_ofNat_of_zero_le (show 0 ≤ n by omega)
    obtain ⟨e', rfl⟩ := Int.eq_ofNat_of_zero_le (show 0 ≤ e by omega)
    exact ord_ring h hL (by omega)
end C39
