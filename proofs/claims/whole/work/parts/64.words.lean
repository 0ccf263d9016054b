/-! WORDS WRITTEN, as lists of letters -/
section C64
variable {sc : Nat × (Nat → Int32)} {m : Nat → Int → Int} {r : Nat → Nat → Value} {T : jx_H} {σ : jx_H}
abbrev xT : Type := List Int × Int × Int × Int
def xStep (s n k : Int) (L : Int → Int) (b : Int) (x : xT) : xT :=
  if x.2.1 + b < x.2.2.1 ∨ x.2.2.2 < x.2.1 + b then (x.1 ++ ((if 0 < b then 2 else 3) :: wLamp s n k L (x.2.1 + b)), x.2.1 + b, min x.2.2.1 (x.2.1 + b), max x.2.2.2 (x.2.1 + b)) else (x.1 ++ [if 0 < b then 2 else 3], x.2.1 + b, x.2.2.1, x.2.2.2)
def xIt (s n k : Int) (L : Int → Int) (b : Int) (x : xT) : Nat → xT
  | 0 => x
  | v + 1 => xStep s n k L b (xIt s n k L b x v)
def xGo (s n k : Int) (L : Int → Int) (goal : Int) (x : xT) : xT := xIt s n k L (if x.2.1 < goal then 1 else -1) x (jabs (goal - x.2.1)).toNat
def x1 (s n k : Int) (L : Int → Int) : xT := (wLamp s n k L 0, 0, min 0 0, max 0 0)
def xAll3 (s n k : Int) (L : Int → Int) (e first second : Int) : xT := xGo s n k L e (xGo s n k L (if second = 0 then first else second) (xGo s n k L first (x1 s n k L)))
def xAll (s n k : Int) (L : Int → Int) (e : Int) : xT :=
  if fTrip (fHigh s L 0 25) (fLow s L 0 25) e < fTrip (fLow s L 0 25) (fHigh s L 0 25) e then xAll3 s n k L e (fHigh s L 0 25) (fLow s L 0 25) else xAll3 s n k L e (fLow s L 0 25) (fHigh s L 0 25)
theorem wLamp_len {s n k a : Int} {L : Int → Int} (hL : fL n k L) (hk : 2 ≤ k ∧ k ≤ 5) : (wLamp s n k L a).length ≤ 2 := by
  have q := fSh_i (s := s) (n := n) hL (by omega) a
  unfold wLamp
  rw [List.length_replicate]
  omega
theorem wLamp_v {s n k a : Int} {L : Int → Int} : ∀ x ∈ wLamp s n k L a, x = 0 ∨ x = 1 := by
  intro x hx
  unfold wLamp at hx
  have := List.eq_of_mem_replicate hx
  rw [this]
  split
  · exact Or.inl rfl
  · exact Or.inr rfl
/-- the row and the list tell the same, and there is room -/
def xR (w : wT × Int × Int × Int) (x : xT) (c : Int) : Prop := (Rep w.1 x.1 ∧ qB w.1) ∧ w.2 = x.2 ∧ (x.1.length : Int) ≤ 2 * (x.2.2.2 - x.2.2.1 + 1) + c ∧ (x.2.2.1 ≤ x.2.1 ∧ x.2.1 ≤ x.2.2.2) ∧ (-12 ≤ x.2.2.1 ∧ x.2.2.2 ≤ 12) ∧ (∀ y ∈ x.1, 0 ≤ y ∧ y ≤ 3)
theorem fRA_b {N : Nat} {q : wT} {x : Int} (h : qB q) (hx : -2147483648 ≤ x ∧ x ≤ 2147483647) : qB (fRA N q x) := by
  unfold fRA
  split
  · intro p
    show -2147483648 ≤ ju q.1 q.2 x p ∧ ju q.1 q.2 x p ≤ 2147483647
    unfold ju
    split
    · exact hx
    · exact h p
  · exact h
theorem xR_step {s n k b c : Int} {L : Int → Int} {w : wT × Int × Int × Int} {x : xT} (hL : fL n k L) (hk : 2 ≤ k ∧ k ≤ 5) (h : xR w x c) (hb : b = 1 ∨ b = -1) (hr : -12 ≤ x.2.1 + b ∧ x.2.1 + b ≤ 12) (hc : c + 1 ≤ 60) : xR (wStep s n k L b w) (xStep s n k L b x) (c + 1) := by
  obtain ⟨⟨h1, h1b⟩, h2, h3, h4, h5, h6⟩ := h
  have ll := wLamp_len (s := s) (n := n) (k := k) (a := x.2.1 + b) hL hk
  have lv := wLamp_v (s := s) (n := n) (k := k) (a := x.2.1 + b) (L := L)
  have hb2 : 0 ≤ (if 0 < b then (2 : Int) else 3) ∧ (if 0 < b then (2 : Int) else 3) ≤ 3 := by split <;> omega
  have e1 : fRA 110 w.1 (if 0 < b then 2 else 3) = fRAl 110 w.1 [if 0 < b then 2 else 3] := rfl
  unfold wStep xStep
  rw [h2]
  by_cases q : x.2.1 + b < x.2.2.1 ∨ x.2.2.2 < x.2.1 + b
  · rw [if_pos q, if_pos q]
    have e2 : fRAl 110 (fRA 110 w.1 (if 0 < b then 2 else 3)) (wLamp s n k L (x.2.1 + b)) = fRAl 110 w.1 ((if 0 < b then 2 else 3) :: wLamp s n k L (x.2.1 + b)) := rfl
    refine ⟨⟨?_, ?_⟩, rfl, ?_, ?_, ?_, ?_⟩
    · show Rep (fRAl 110 (fRA 110 w.1 (if 0 < b then 2 else 3)) (wLamp s n k L (x.2.1 + b))) (x.1 ++ ((if 0 < b then 2 else 3) :: wLamp s n k L (x.2.1 + b)))
      rw [e2]
      exact fRAl_rep _ _ _ h1 (by rw [List.length_cons]; omega)
    · show qB (fRAl 110 (fRA 110 w.1 (if 0 < b then 2 else 3)) (wLamp s n k L (x.2.1 + b)))
      exact fRAl_b _ _ (fRA_b h1b (by omega)) (fun y hy => by have := lv y hy; omega)
    · show (((x.1 ++ ((if 0 < b then 2 else 3) :: wLamp s n k L (x.2.1 + b))).length : Nat) : Int) ≤ 2 * (max x.2.2.2 (x.2.1 + b) - min x.2.2.1 (x.2.1 + b) + 1) + (c + 1)
      rw [List.length_append, List.length_cons]
      omega
    · show min x.2.2.1 (x.2.1 + b) ≤ x.2.1 + b ∧ x.2.1 + b ≤ max x.2.2.2 (x.2.1 + b)
      omega
    · show -12 ≤ min x.2.2.1 (x.2.1 + b) ∧ max x.2.2.2 (x.2.1 + b) ≤ 12
      omega
    · intro y hy
      rcases List.mem_append.mp hy with hy | hy
      · exact h6 y hy
      · rcases List.mem_cons.mp hy with hy | hy
        · rw [hy]; exact hb2
        · have := lv y hy; omega
  · rw [if_neg q, if_neg q]
    refine ⟨⟨?_, ?_⟩, rfl, ?_, ?_, h5, ?_⟩
    · show Rep (fRA 110 w.1 (if 0 < b then 2 else 3)) (x.1 ++ [if 0 < b then 2 else 3])
      rw [e1]
      exact fRAl_rep _ _ _ h1 (by rw [List.length_singleton]; omega)
    · exact fRA_b h1b (by omega)
    · show (((x.1 ++ [if 0 < b then 2 else 3]).length : Nat) : Int) ≤ 2 * (x.2.2.2 - x.2.2.1 + 1) + (c + 1)
      rw [List.length_append, List.length_singleton]
      omega
    · show x.2.2.1 ≤ x.2.1 + b ∧ x.2.1 + b ≤ x.2.2.2
      omega
    · intro y hy
      rcases List.mem_append.mp hy with hy | hy
      · exact h6 y hy
      · rw [List.mem_singleton.mp hy]; exact hb2
theorem xIt_at {s n k b : Int} {L : Int → Int} (x : xT) : ∀ v : Nat, (xIt s n k L b x v).2.1 = x.2.1 + b * v
  | 0 => by show x.2.1 = _; simp
  | v + 1 => by
    have ih := xIt_at (s := s) (n := n) (k := k) (b := b) (L := L) x v
    have e : b * ((v + 1 : Nat) : Int) = b * v + b := by
      rw [show ((v + 1 : Nat) : Int) = (v : Int) + 1 from rfl, Int.mul_add, Int.mul_one]
    show (xStep s n k L b (xIt s n k L b x v)).2.1 = _
    unfold xStep
    split
    · show (xIt s n k L b x v).2.1 + b = _
      omega
    · show (xIt s n k L b x v).2.1 + b = _
      omega
theorem xR_it {s n k b c : Int} {L : Int → Int} {w : wT × Int × Int × Int} {x : xT} (hL : fL n k L) (hk : 2 ≤ k ∧ k ≤ 5) (h : xR w x c) (hb : b = 1 ∨ b = -1) : ∀ v : Nat, (-12 ≤ x.2.1 + b * v ∧ x.2.1 + b * v ≤ 12) → c + v ≤ 60 → xR (wIt s n k L b w v) (xIt s n k L b x v) (c + v)
  | 0, _, _ => by rw [show c + ((0 : Nat) : Int) = c by omega]; exact h
  | v + 1, hr, hc => by
    have e : b * ((v + 1 : Nat) : Int) = b * v + b := by
      rw [show ((v + 1 : Nat) : Int) = (v : Int) + 1 from rfl, Int.mul_add, Int.mul_one]
    have hx := h.2.2.2
    have hr' : -12 ≤ x.2.1 + b * v ∧ x.2.1 + b * v ≤ 12 := by
      rcases hb with hb | hb <;> subst hb <;> omega
    have ih := xR_it (s := s) (n := n) (k := k) hL hk h hb v hr' (by omega)
    have ea := xIt_at (s := s) (n := n) (k := k) (b := b) (L := L) x v
    have := xR_step (s := s) hL hk ih hb (by omega) (by omega)
    rw [show c + ((v + 1 : Nat) : Int) = c + (v : Int) + 1 by omega]
    exact this
theorem xGo_at {s n k g : Int} {L : Int → Int} (x : xT) : (xGo s n k L g x).2.1 = g := by
  have ja := jabs_c (g - x.2.1)
  unfold xGo
  rw [xIt_at]
  by_cases h : x.2.1 < g
  · rw [if_pos h]
    omega
  · rw [if_neg h]
    omega
theorem xR_go {s n k g c : Int} {L : Int → Int} {w : wT × Int × Int × Int} {x : xT} (hL : fL n k L) (hk : 2 ≤ k ∧ k ≤ 5) (h : xR w x c) (hg : -12 ≤ g ∧ g ≤ 12) (hc : c + jabs (g - x.2.1) ≤ 60) : xR (wGo s n k L g w) (xGo s n k L g x) (c + jabs (g - x.2.1)) := by
  have ja := jabs_c (g - x.2.1)
  have h2 := h.2.1
  unfold wGo xGo
  rw [h2]
  have e : c + jabs (g - x.2.1) = c + (((jabs (g - x.2.1)).toNat : Nat) : Int) := by omega
  rw [e]
  by_cases q : x.2.1 < g
  · rw [if_pos q]
    exact xR_it hL hk h (Or.inl rfl) _ (by omega) (by omega)
  · rw [if_neg q]
    exact xR_it hL hk h (Or.inr rfl) _ (by omega) (by omega)
theorem xR_1 {s n k : Int} {L : Int → Int} {q : wT} (hL : fL n k L) (hk : 2 ≤ k ∧ k ≤ 5) (hq : qB q) : xR (w1 s n k L q) (x1 s n k L) 0 := by
  have ll := wLamp_len (s := s) (n := n) (k := k) (a := 0) hL hk
  have lv := wLamp_v (s := s) (n := n) (k := k) (a := 0) (L := L)
  refine ⟨⟨?_, fRAl_b _ (q.1, 0) hq (fun y hy => by have := lv y hy; omega)⟩, rfl, ?_, ?_, ?_, fun y hy => by have := lv y hy; omega⟩
  · have := fRAl_rep (N := 110) (wLamp s n k L 0) (q.1, 0) [] ⟨rfl, fun j hj => absurd hj (by simp)⟩ (by rw [List.length_nil]; omega)
    rwa [List.nil_append] at this
  · show (((wLamp s n k L 0).length : Nat) : Int) ≤ 2 * (max 0 0 - min 0 0 + 1) + 0
    omega
  · show min (0 : Int) 0 ≤ 0 ∧ (0 : Int) ≤ max 0 0
    omega
  · show -12 ≤ min (0 : Int) 0 ∧ max (0 : Int) 0 ≤ 12
    omega
theorem xR_all3 {s n k e f g : Int} {L : Int → Int} {q : wT} (hL : fL n k L) (hk : 2 ≤ k ∧ k ≤ 5) (hq : qB q) (he : -12 ≤ e ∧ e ≤ 12) (hf : -12 ≤ f ∧ f ≤ 12) (hg : -12 ≤ g ∧ g ≤ 12) : xR (wAll3 s n k L e q f g) (xAll3 s n k L e f g) 60 := by
  have r1 := xR_1 (s := s) (q := q) hL hk hq
  have a1 : (x1 s n k L).2.1 = 0 := rfl
  have j1 := jabs_c (f - 0)
  have r2 := xR_go (s := s) (g := f) hL hk r1 hf (by rw [a1]; omega)
  rw [a1] at r2
  have a2 := xGo_at (s := s) (n := n) (k := k) (g := f) (L := L) (x1 s n k L)
  have hs : -12 ≤ (if g = 0 then f else g) ∧ (if g = 0 then f else g) ≤ 12 := by split <;> omega
  have j2 := jabs_c ((if g = 0 then f else g) - f)
  have r3 := xR_go (s := s) (g := if g = 0 then f else g) hL hk r2 hs (by rw [a2]; omega)
  rw [a2] at r3
  have a3 := xGo_at (s := s) (n := n) (k := k) (g := if g = 0 then f else g) (L := L) (xGo s n k L f (x1 s n k L))
  have j3 := jabs_c (e - (if g = 0 then f else g))
  have r4 := xR_go (s := s) (g := e) hL hk r3 he (by rw [a3]; omega)
  rw [a3] at r4
  unfold wAll3 xAll3
  obtain ⟨b1, b2, b3, b4⟩ := r4
  exact ⟨b1, b2, by omega, b4⟩
theorem fHigh_12 {s n k : Int} {L : Int → Int} (hs : fS s n k) (h0 : s = 0) : ∀ v : Nat, v ≤ 25 → 0 ≤ fHigh s L 0 v ∧ fHigh s L 0 v ≤ 12
  | 0, _ => by simp [fHigh]
  | v + 1, hv => by
    have q := fHigh_12 (L := L) hs h0 v (by omega)
    have gl := fLo_c s
    unfold fHigh
    split <;> omega
theorem xR_all {s n k e : Int} {L : Int → Int} {q : wT} (h : fS s n k) (h0 : s = 0) (hL : fL n k L) (hq : qB q) (he : -12 ≤ e ∧ e ≤ 12) : xR (wAll s n k L e q) (xAll s n k L e) 60 := by
  have gl := fLow_0 (s := s) (L := L) 25 (by omega)
  have gh := fHigh_12 (L := L) h h0 25 (by omega)
  unfold wAll xAll
  split
  · exact xR_all3 hL h.2 hq he (by omega) (by omega)
  · exact xR_all3 hL h.2 hq he (by omega) (by omega)
/-- one way after another in one direction is one way -/
theorem xIt_add {s n k b : Int} {L : Int → Int} (x : xT) (u : Nat) : ∀ v : Nat, xIt s n k L b x (u + v) = xIt s n k L b (xIt s n k L b x u) v
  | 0 => rfl
  | v + 1 => by
    show xStep s n k L b (xIt s n k L b x (u + v)) = xStep s n k L b (xIt s n k L b (xIt s n k L b x u) v)
    rw [xIt_add x u v]
theorem xGo_up {s n k g : Int} {L : Int → Int} (x : xT) (h : x.2.1 ≤ g) : xGo s n k L g x = xIt s n k L 1 x (g - x.2.1).toNat := by
  have ja := jabs_c (g - x.2.1)
  unfold xGo
  by_cases q : x.2.1 < g
  · rw [if_pos q, show jabs (g - x.2.1) = g - x.2.1 by omega]
  · rw [show jabs (g - x.2.1) = 0 by omega, show g - x.2.1 = 0 by omega]
    rfl
theorem xGo_down {s n k g : Int} {L : Int → Int} (x : xT) (h : g ≤ x.2.1) : xGo s n k L g x = xIt s n k L (-1) x (x.2.1 - g).toNat := by
  have ja := jabs_c (g - x.2.1)
  unfold xGo
  rw [if_neg (by omega), show jabs (g - x.2.1) = x.2.1 - g by omega]
theorem xGo_same {s n k g : Int} {L : Int → Int} (x : xT) (h : x.2.1 = g) : xGo s n k L g x = x := by
  rw [xGo_down x (by omega), show x.2.1 - g = 0 by omega]
  rfl
theorem xGo_uu {s n k g g' : Int} {L : Int → Int} (x : xT) (h : x.2.1 ≤ g) (h' : g ≤ g') : xGo s n k L g' (xGo s n k L g x) = xGo s n k L g' x := by
  have a := xGo_at (s := s) (n := n) (k := k) (g := g) (L := L) x
  rw [xGo_up _ (by omega), a, xGo_up x h, xGo_up x (by omega), ← xIt_add]
  congr 1
  omega
theorem xGo_dd {s n k g g' : Int} {L : Int → Int} (x : xT) (h : g ≤ x.2.1) (h' : g' ≤ g) : xGo s n k L g' (xGo s n k L g x) = xGo s n k L g' x := by
  have a := xGo_at (s := s) (n := n) (k := k) (g := g) (L := L) x
  rw [xGo_down _ (by omega), a, xGo_down x h, xGo_down x (by omega), ← xIt_add]
  congr 1
  omega
/-- the other side's order of ways -/
def xAllM (s n k : Int) (L : Int → Int) (e : Int) : xT :=
  if 2 * fHigh s L 0 25 - fLow s L 0 25 + jabs (fLow s L 0 25 - e) < -2 * fLow s L 0 25 + fHigh s L 0 25 + jabs (fHigh s L 0 25 - e) then xGo s n k L e (xGo s n k L (fLow s L 0 25) (xGo s n k L (fHigh s L 0 25) (x1 s n k L))) else xGo s n k L e (xGo s n k L (fHigh s L 0 25) (xGo s n k L (fLow s L 0 25) (x1 s n k L)))
theorem xAll_M {s n k e : Int} {L : Int → Int} (h : fS s n k) (h0 : s = 0) : xAll s n k L e = xAllM s n k L e := by
  have gl := fLow_0 (s := s) (L := L) 25 (by omega)
  have gh := fHigh_12 (L := L) h h0 25 (by omega)
  have a1 : (x1 s n k L).2.1 = 0 := rfl
  unfold xAll xAllM xAll3 fTrip
  generalize fLow s L 0 25 = lo at *
  generalize fHigh s L 0 25 = hi at *
  have t1 := jabs_c lo
  have t2 := jabs_c hi
  have t3 := jabs_c (lo - hi)
  have t4 := jabs_c (hi - lo)
  have t5 := jabs_c (e - lo)
  have t6 := jabs_c (e - hi)
  have t7 := jabs_c (lo - e)
  have t8 := jabs_c (hi - e)
  have t9 := jabs_c (lo - lo)
  have ta := jabs_c (hi - hi)
  have g0 : xGo s n k L 0 (x1 s n k L) = x1 s n k L := xGo_same _ a1
  by_cases c1 : lo = 0
  · by_cases c2 : hi = 0
    · subst c1; subst c2
      rw [ite_self, if_pos rfl, ite_self]
    · subst c1
      rw [if_neg (by simp only [if_neg c2, if_pos]; omega), if_neg c2, if_neg (by omega)]
  · by_cases c2 : hi = 0
    · subst c2
      rw [if_neg (by simp only [if_neg c1, if_pos]; omega), if_pos rfl]
      have s1 : xGo s n k L lo (xGo s n k L lo (x1 s n k L)) = xGo s n k L lo (x1 s n k L) := xGo_same _ (xGo_at _)
      rw [s1]
      split
      · rw [g0]
      · have al := xGo_at (s := s) (n := n) (k := k) (g := lo) (L := L) (x1 s n k L)
        rw [xGo_uu (g := 0) (g' := e) _ (by omega) (by omega)]
    · simp only [if_neg c1, if_neg c2]
      by_cases c3 : jabs hi + jabs (lo - hi) + jabs (e - lo) < jabs lo + jabs (hi - lo) + jabs (e - hi)
      · rw [if_pos c3, if_pos (by omega)]
      · rw [if_neg c3, if_neg (by omega)]
end C64
