/-! CALLS of the other side: words written, the call -/
section C77
variable {sc : Nat × (Nat → Int32)} {m : Nat → Int → Int} {r : Nat → Nat → Value} {T : jx_H} {σ : jx_H}
theorem wLamp_2 {n k a : Int} {L : Int → Int} (hL : fL n k L) (hk : 2 ≤ k ∧ k ≤ 5) : ((wLamp 0 n k L a).length : Int) ≤ 2 := by
  have := wLamp_len (s := 0) (n := n) (k := k) (a := a) hL hk
  omega
theorem xB_step {n k b c : Int} {L : Int → Int} {x : xT} (hL : fL n k L) (hk : 2 ≤ k ∧ k ≤ 5) (h : xB x c) (hr : -12 ≤ x.2.1 + b ∧ x.2.1 + b ≤ 12) : xB (xStep 0 n k L b x) (c + 3) := by
  obtain ⟨h1, h2, h3, h4⟩ := h
  have ll := wLamp_2 (a := x.2.1 + b) hL hk
  unfold xStep
  split
  · refine ⟨?_, hr, ?_, ?_⟩
    · show ((x.1 ++ ((if 0 < b then (2 : Int) else 3) :: wLamp 0 n k L (x.2.1 + b))).length : Int) ≤ c + 3
      rw [List.length_append, List.length_cons]
      omega
    · show -12 ≤ min x.2.2.1 (x.2.1 + b) ∧ min x.2.2.1 (x.2.1 + b) ≤ 12
      omega
    · show -12 ≤ max x.2.2.2 (x.2.1 + b) ∧ max x.2.2.2 (x.2.1 + b) ≤ 12
      omega
  · refine ⟨?_, hr, h3, h4⟩
    show ((x.1 ++ [if 0 < b then (2 : Int) else 3]).length : Int) ≤ c + 3
    rw [List.length_append, List.length_singleton]
    omega
theorem xB_it {n k b c : Int} {L : Int → Int} {x : xT} (hL : fL n k L) (hk : 2 ≤ k ∧ k ≤ 5) (h : xB x c) (hb : b = 1 ∨ b = -1) : ∀ v : Nat, (-12 ≤ x.2.1 + b * v ∧ x.2.1 + b * v ≤ 12) → xB (xIt 0 n k L b x v) (c + 3 * (v : Int))
  | 0, _ => by rw [show c + 3 * ((0 : Nat) : Int) = c by omega]; exact h
  | v + 1, hr => by
    have e : b * ((v + 1 : Nat) : Int) = b * v + b := by
      rw [show ((v + 1 : Nat) : Int) = (v : Int) + 1 from rfl, Int.mul_add, Int.mul_one]
    have hx := h.2.1
    have hr' : -12 ≤ x.2.1 + b * v ∧ x.2.1 + b * v ≤ 12 := by
      rcases hb with hb | hb <;> subst hb <;> omega
    have ih := xB_it hL hk h hb v hr'
    have ea := xIt_at (s := 0) (n := n) (k := k) (b := b) (L := L) x v
    have := xB_step (b := b) hL hk ih (by omega)
    rw [show c + 3 * ((v + 1 : Nat) : Int) = c + 3 * (v : Int) + 3 by omega]
    exact this
theorem xB_go {n k g c : Int} {L : Int → Int} {x : xT} (hL : fL n k L) (hk : 2 ≤ k ∧ k ≤ 5) (h : xB x c) (hg : -12 ≤ g ∧ g ≤ 12) : xB (xGo 0 n k L g x) (c + 72) := by
  have ja := jabs_c (g - x.2.1)
  have hx := h.2.1
  unfold xGo
  have e2 : c + 3 * (((jabs (g - x.2.1)).toNat : Nat) : Int) ≤ c + 72 := by omega
  have key : ∀ b : Int, (b = 1 ∨ b = -1) → (-12 ≤ x.2.1 + b * (((jabs (g - x.2.1)).toNat : Nat) : Int) ∧ x.2.1 + b * (((jabs (g - x.2.1)).toNat : Nat) : Int) ≤ 12) → xB (xIt 0 n k L b x (jabs (g - x.2.1)).toNat) (c + 72) := fun b hb hr => by
    obtain ⟨q1, q2⟩ := xB_it hL hk h hb (jabs (g - x.2.1)).toNat hr
    exact ⟨by omega, q2⟩
  by_cases q : x.2.1 < g
  · rw [if_pos q]
    exact key 1 (Or.inl rfl) (by omega)
  · rw [if_neg q]
    exact key (-1) (Or.inr rfl) (by omega)
theorem gH_18 (m : Nat → Int → Int) (x : xT) (y a : Int) : jU (gH m x y) 45 (ju (gH m x y 45) 18 a) = gH m (x.1, a, x.2.2) y := by
  unfold gH
  rw [jU_jU, jU_same, fWx_18]
theorem gH_19 (m : Nat → Int → Int) (x : xT) (y a b : Int) : jU (jU (gH m x y) 45 (ju (gH m x y 45) 19 a)) 45 (ju (jU (gH m x y) 45 (ju (gH m x y 45) 19 a) 45) 20 b) = gH m (x.1, x.2.1, a, b) y := by
  unfold gH
  simp only [jU_jU, jU_same]
  rw [fWx_1920]
theorem k_ggoesTo {w n k e y g c : Int} {L : Int → Int} {x : xT} (gw : gWk m w 0 n k L e) (hB : xB x c) (hc : c ≤ 700) (hy : -2147483648 ≤ y ∧ y ≤ 2147483647) (hg : -12 ≤ g ∧ g ≤ 12) : jq sc 6 jm_X12_goesTo [.ref 45, .int (jI w), .int (jI g)] (jh (gH m x y) r T) (jP none (jh (gH m (xGo 0 n k L g x) y) r T)) := by
  have hL := gw.2.2.2.2.1
  have bk : 2 ≤ k ∧ k ≤ 5 := gw.1.2.2
  have ja := jabs_c (g - x.2.1)
  have hx := hB.2.1
  obtain ⟨b, hb⟩ : ∃ b : Int, (x.2.1 < g ∧ b = 1) ∨ (g ≤ x.2.1 ∧ b = -1) := by
    by_cases q : x.2.1 < g
    · exact ⟨1, Or.inl ⟨q, rfl⟩⟩
    · exact ⟨-1, Or.inr ⟨by omega, rfl⟩⟩
  have hb1 : b = 1 ∨ b = -1 := by omega
  have eg : xGo 0 n k L g x = xIt 0 n k L b x (jabs (g - x.2.1)).toNat := by
    unfold xGo
    rcases hb with h | h
    · rw [if_pos h.1, h.2]
    · rw [if_neg (by omega), h.2]
  rw [eg]
  obtain ⟨N, hN⟩ : ∃ N : Nat, (jabs (g - x.2.1)).toNat = N := ⟨_, rfl⟩
  rw [hN]
  refine je_in jb_X12_goesTo rfl (ls := [_, _, _, _]) rfl ?_
  refine je_loop (fun (v : Nat) ls σ' => ∃ z, ls = [.ref 45, .int (jI w), .int (jI g), z] ∧ σ' = jh (gH m (xIt 0 n k L b x v) y) r T) (N) ⟨_, rfl, rfl⟩ (fun v hv ls σ' gv kv => ?_) (fun ls σ' gv => ?_)
  · obtain ⟨z, rfl, rfl⟩ := gv
    have hbv : (b = 1 ∧ b * (v : Int) = (v : Int)) ∨ (b = -1 ∧ b * (v : Int) = -(v : Int)) := by rcases hb1 with h | h; (left; subst h; omega); (right; subst h; omega)
    have ea := xIt_at (s := 0) (n := n) (k := k) (b := b) (L := L) x v
    have hX := xB_it (x := x) hL bk hB hb1 v (by omega)
    have hrb : -12 ≤ (xIt 0 n k L b x v).2.1 + b ∧ (xIt 0 n k L b x v).2.1 + b ≤ 12 := (by omega)
    have hX1 := xB_step (b := b) hL bk hX hrb
    rw [show xIt 0 n k L b x (v + 1) = xStep 0 n k L b (xIt 0 n k L b x v) from rfl] at kv
    generalize xIt 0 n k L b x v = X at *
    obtain ⟨X1, X2, X3, X4⟩ := X
    have ea : X2 = x.2.1 + b * (v : Int) := ea
    obtain ⟨hX0, hX2, hX3, hX4⟩ := hX
    have hX0 : (X1.length : Int) ≤ c + 3 * (v : Int) := hX0
    have hX2 : -12 ≤ X2 ∧ X2 ≤ 12 := hX2
    have hX3 : -12 ≤ X3 ∧ X3 ≤ 12 := hX3
    have hX4 : -12 ≤ X4 ∧ X4 ≤ 12 := hX4
    have hrb : -12 ≤ X2 + b ∧ X2 + b ≤ 12 := hrb
    obtain ⟨e1, e2, e3, e4, e5, e6⟩ := gH_f m (X1, X2, X3, X4) y
    have e4 : gH m (X1, X2, X3, X4) y 45 18 = X2 := e4
    obtain ⟨C, hC, hC2⟩ : ∃ C : Int, (if 0 < b then (2 : Int) else 3) = C ∧ fSg C = (if 0 < b then 116 else 84) := ⟨_, rfl, by rcases hb1 with h | h; (subst h; rfl); (subst h; rfl)⟩
    have hC3 : (b = 1 ∧ fSg C = 116) ∨ (b = -1 ∧ fSg C = 84) := by rcases hb1 with h | h; (left; subst h; exact ⟨rfl, hC2⟩); (right; subst h; exact ⟨rfl, hC2⟩)
    refine je_ps jb_X12_goesTo 1 (pc' := 1) (ls' := [_, _, _, _]) (st' := [_]) rfl ?_
    refine je_get jb_X12_goesTo rfl (pc' := 4) rfl (jh_at (a := 45) rfl) (by rfl) (by rfl) ?_
    refine je_ps jb_X12_goesTo 1 (pc' := 5) (ls' := [_, _, _, _]) (st' := [_, _]) rfl ?_
    refine je_icmpeq jb_X12_goesTo rfl (t := 108) rfl (pc' := 8) rfl (by first | omega | exact (hM _ _).1 | exact (hM _ _).2) (by first | omega | exact (hM _ _).1 | exact (hM _ _).2) (by first | omega | exact (hM _ _).1 | exact (hM _ _).2) (by first | omega | exact (hM _ _).1 | exact (hM _ _).2) (fun c5 => ?_) (fun c5 => ?_)
    · first | (exfalso; omega) | (cases c5; done) | (exfalso; simp_all; done)
    · refine je_ps jb_X12_goesTo 1 (pc' := 9) (ls' := [_, _, _, _]) (st' := [_]) rfl ?_
      refine je_get jb_X12_goesTo rfl (pc' := 12) rfl (jh_at (a := 45) rfl) (by rfl) (by rfl) ?_
      refine je_ps jb_X12_goesTo 1 (pc' := 13) (ls' := [_, _, _, _]) (st' := [_, _]) rfl ?_
      refine je_icmpge jb_X12_goesTo rfl (t := 20) rfl (pc' := 16) rfl (by first | omega | exact (hM _ _).1 | exact (hM _ _).2) (by first | omega | exact (hM _ _).1 | exact (hM _ _).2) (by first | omega | exact (hM _ _).1 | exact (hM _ _).2) (by first | omega | exact (hM _ _).1 | exact (hM _ _).2) (fun c13 => ?_) (fun c13 => ?_)
      · refine je_ps jb_X12_goesTo 5 (pc' := 25) (ls' := [_, _, _, _]) (st' := [_, _, _]) rfl ?_
        refine je_icmpne jb_X12_goesTo rfl (t := 33) rfl (pc' := 28) rfl (by first | omega | exact (hM _ _).1 | exact (hM _ _).2) (by first | omega | exact (hM _ _).1 | exact (hM _ _).2) (by first | omega | exact (hM _ _).1 | exact (hM _ _).2) (by first | omega | exact (hM _ _).1 | exact (hM _ _).2) (fun c25 => ?_) (fun c25 => ?_)
        · refine je_ps jb_X12_goesTo 1 (pc' := 35) (ls' := [_, _, _, _]) (st' := [_, _]) rfl ?_
          refine je_cvP' jb_X12_goesTo rfl (pc' := 38) rfl (jh_at (a := 45) rfl) (by rfl) (by first | decide | exact Nat.ble_eq_true_of_le (by omega)) (k_gwrites (c := C) (by (show (X1.length : Int) ≤ 1000); omega) hy (by omega)) (st' := []) rfl ?_
          obtain ⟨f1, f2, f3, f4, f5, f6⟩ := gH_f m (X1 ++ [C], X2, X3, X4) y
          have f4 : gH m (X1 ++ [C], X2, X3, X4) y 45 18 = X2 := f4
          refine je_ps jb_X12_goesTo 2 (pc' := 40) (ls' := [_, _, _, _]) (st' := [_, _]) rfl ?_
          refine je_get jb_X12_goesTo rfl (pc' := 43) rfl (jh_at (a := 45) rfl) (by rfl) (by rfl) ?_
          refine je_ps jb_X12_goesTo 1 (pc' := 44) (ls' := [_, _, _, _]) (st' := [_, _, _]) rfl ?_
          refine je_iadd jb_X12_goesTo rfl (pc' := 45) rfl ?_
          refine je_putI jb_X12_goesTo rfl (pc' := 48) rfl (j := 18) (a := 45) rfl (by rfl) (by rfl) (by rfl) (by rfl) ?_
          rw [gH_18]
          show je _ _ _ _ _ _ (jh (gH m (X1 ++ [C], gH m (X1 ++ [C], X2, X3, X4) y 45 18 + _, X3, X4) y) _ _) _
          rw [f4]
          first | rw [show X2 + 1 = X2 + b by omega] | rw [show X2 + -1 = X2 + b by omega]
          obtain ⟨q1, q2, q3, q4, q5, q6⟩ := gH_f m (X1 ++ [C], X2 + b, X3, X4) y
          have q4 : gH m (X1 ++ [C], X2 + b, X3, X4) y 45 18 = X2 + b := q4
          have q5 : gH m (X1 ++ [C], X2 + b, X3, X4) y 45 19 = X3 := q5
          have q6 : gH m (X1 ++ [C], X2 + b, X3, X4) y 45 20 = X4 := q6
          refine je_ps jb_X12_goesTo 1 (pc' := 49) (ls' := [_, _, _, _]) (st' := [_]) rfl ?_
          refine je_get jb_X12_goesTo rfl (pc' := 52) rfl (jh_at (a := 45) rfl) (by rfl) (by rfl) ?_
          refine je_ps jb_X12_goesTo 1 (pc' := 53) (ls' := [_, _, _, _]) (st' := [_, _]) rfl ?_
          refine je_get jb_X12_goesTo rfl (pc' := 56) rfl (jh_at (a := 45) rfl) (by rfl) (by rfl) ?_
          refine je_icmplt jb_X12_goesTo rfl (t := 70) rfl (pc' := 59) rfl (by first | omega | exact (hM _ _).1 | exact (hM _ _).2) (by first | omega | exact (hM _ _).1 | exact (hM _ _).2) (by first | omega | exact (hM _ _).1 | exact (hM _ _).2) (by first | omega | exact (hM _ _).1 | exact (hM _ _).2) (fun c56 => ?_) (fun c56 => ?_)
          · refine je_ps jb_X12_goesTo 2 (pc' := 72) (ls' := [_, _, _, _]) (st' := [_, _]) rfl ?_
            refine je_get jb_X12_goesTo rfl (pc' := 75) rfl (jh_at (a := 45) rfl) (by rfl) (by rfl) ?_
            refine je_ps jb_X12_goesTo 1 (pc' := 76) (ls' := [_, _, _, _]) (st' := [_, _, _]) rfl ?_
            refine je_get jb_X12_goesTo rfl (pc' := 79) rfl (jh_at (a := 45) rfl) (by rfl) (by rfl) ?_
            refine je_min jb_X12_goesTo rfl (pc' := 82) rfl rfl rfl (by first | omega | exact (hM _ _).1 | exact (hM _ _).2) (by first | omega | exact (hM _ _).1 | exact (hM _ _).2) (by first | omega | exact (hM _ _).1 | exact (hM _ _).2) (by first | omega | exact (hM _ _).1 | exact (hM _ _).2) ?_
            refine je_putI jb_X12_goesTo rfl (pc' := 85) rfl (j := 19) (a := 45) rfl (by rfl) (by rfl) (by rfl) (by rfl) ?_
            refine je_ps jb_X12_goesTo 2 (pc' := 87) (ls' := [_, _, _, _]) (st' := [_, _]) rfl ?_
            refine je_get jb_X12_goesTo rfl (pc' := 90) rfl (jh_at (a := 45) rfl) (by rfl) (by rfl) ?_
            refine je_ps jb_X12_goesTo 1 (pc' := 91) (ls' := [_, _, _, _]) (st' := [_, _, _]) rfl ?_
            refine je_get jb_X12_goesTo rfl (pc' := 94) rfl (jh_at (a := 45) rfl) (by rfl) (by rfl) ?_
            simp only [jU_same, ju_ne (show (20 : Int) ≠ 19 by decide), ju_ne (show (18 : Int) ≠ 19 by decide), q4, q5, q6]
            refine je_max jb_X12_goesTo rfl (pc' := 97) rfl rfl rfl (by first | omega | exact (hM _ _).1 | exact (hM _ _).2) (by first | omega | exact (hM _ _).1 | exact (hM _ _).2) (by first | omega | exact (hM _ _).1 | exact (hM _ _).2) (by first | omega | exact (hM _ _).1 | exact (hM _ _).2) ?_
            refine je_putI jb_X12_goesTo rfl (pc' := 100) rfl (j := 20) (a := 45) rfl (by rfl) (by rfl) (by rfl) (by rfl) ?_
            rw [gH_19]
            simp only [jU_same, ju_ne (show (20 : Int) ≠ 19 by decide), ju_ne (show (18 : Int) ≠ 19 by decide), q4, q5, q6]
            refine je_ps jb_X12_goesTo 2 (pc' := 102) (ls' := [_, _, _, _]) (st' := [_, _]) rfl ?_
            refine je_cvP' jb_X12_goesTo rfl (pc' := 105) rfl (jh_at (a := 45) rfl) (by rfl) (by first | decide | exact Nat.ble_eq_true_of_le (by omega)) (k_gturnsHere gw (by (show ((X1 ++ [C]).length : Int) ≤ 900); (rw [List.length_append, List.length_singleton]; omega)) hy hrb) (st' := []) rfl ?_
            refine je_ps jb_X12_goesTo 1 (pc' := 0) (ls' := [_, _, _, _]) (st' := []) rfl ?_
            first | (exfalso; omega) | (refine kv _ _ ⟨_, rfl, jh_eq ?_⟩; unfold xStep; rw [if_pos (show X2 + b < X3 ∨ X4 < X2 + b by omega), hC, List.append_assoc]; rfl) | (refine kv _ _ ⟨_, rfl, jh_eq ?_⟩; unfold xStep; rw [if_neg (show ¬ (X2 + b < X3 ∨ X4 < X2 + b) by omega), hC])
          · refine je_ps jb_X12_goesTo 1 (pc' := 60) (ls' := [_, _, _, _]) (st' := [_]) rfl ?_
            refine je_get jb_X12_goesTo rfl (pc' := 63) rfl (jh_at (a := 45) rfl) (by rfl) (by rfl) ?_
            refine je_ps jb_X12_goesTo 1 (pc' := 64) (ls' := [_, _, _, _]) (st' := [_, _]) rfl ?_
            refine je_get jb_X12_goesTo rfl (pc' := 67) rfl (jh_at (a := 45) rfl) (by rfl) (by rfl) ?_
            refine je_icmple jb_X12_goesTo rfl (t := 105) rfl (pc' := 70) rfl (by first | omega | exact (hM _ _).1 | exact (hM _ _).2) (by first | omega | exact (hM _ _).1 | exact (hM _ _).2) (by first | omega | exact (hM _ _).1 | exact (hM _ _).2) (by first | omega | exact (hM _ _).1 | exact (hM _ _).2) (fun c67 => ?_) (fun c67 => ?_)
            · refine je_ps jb_X12_goesTo 1 (pc' := 0) (ls' := [_, _, _, _]) (st' := []) rfl ?_
              first | (exfalso; omega) | (refine kv _ _ ⟨_, rfl, jh_eq ?_⟩; unfold xStep; rw [if_pos (show X2 + b < X3 ∨ X4 < X2 + b by omega), hC, List.append_assoc]; rfl) | (refine kv _ _ ⟨_, rfl, jh_eq ?_⟩; unfold xStep; rw [if_neg (show ¬ (X2 + b < X3 ∨ X4 < X2 + b) by omega), hC])
            · refine je_ps jb_X12_goesTo 2 (pc' := 72) (ls' := [_, _, _, _]) (st' := [_, _]) rfl ?_
              refine je_get jb_X12_goesTo rfl (pc' := 75) rfl (jh_at (a := 45) rfl) (by rfl) (by rfl) ?_
              refine je_ps jb_X12_goesTo 1 (pc' := 76) (ls' := [_, _, _, _]) (st' := [_, _, _]) rfl ?_
              refine je_get jb_X12_goesTo rfl (pc' := 79) rfl (jh_at (a := 45) rfl) (by rfl) (by rfl) ?_
              refine je_min jb_X12_goesTo rfl (pc' := 82) rfl rfl rfl (by first | omega | exact (hM _ _).1 | exact (hM _ _).2) (by first | omega | exact (hM _ _).1 | exact (hM _ _).2) (by first | omega | exact (hM _ _).1 | exact (hM _ _).2) (by first | omega | exact (hM _ _).1 | exact (hM _ _).2) ?_
              refine je_putI jb_X12_goesTo rfl (pc' := 85) rfl (j := 19) (a := 45) rfl (by rfl) (by rfl) (by rfl) (by rfl) ?_
              refine je_ps jb_X12_goesTo 2 (pc' := 87) (ls' := [_, _, _, _]) (st' := [_, _]) rfl ?_
              refine je_get jb_X12_goesTo rfl (pc' := 90) rfl (jh_at (a := 45) rfl) (by rfl) (by rfl) ?_
              refine je_ps jb_X12_goesTo 1 (pc' := 91) (ls' := [_, _, _, _]) (st' := [_, _, _]) rfl ?_
              refine je_get jb_X12_goesTo rfl (pc' := 94) rfl (jh_at (a := 45) rfl) (by rfl) (by rfl) ?_
              simp only [jU_same, ju_ne (show (20 : Int) ≠ 19 by decide), ju_ne (show (18 : Int) ≠ 19 by decide), q4, q5, q6]
              refine je_max jb_X12_goesTo rfl (pc' := 97) rfl rfl rfl (by first | omega | exact (hM _ _).1 | exact (hM _ _).2) (by first | omega | exact (hM _ _).1 | exact (hM _ _).2) (by first | omega | exact (hM _ _).1 | exact (hM _ _).2) (by first | omega | exact (hM _ _).1 | exact (hM _ _).2) ?_
              refine je_putI jb_X12_goesTo rfl (pc' := 100) rfl (j := 20) (a := 45) rfl (by rfl) (by rfl) (by rfl) (by rfl) ?_
              rw [gH_19]
              simp only [jU_same, ju_ne (show (20 : Int) ≠ 19 by decide), ju_ne (show (18 : Int) ≠ 19 by decide), q4, q5, q6]
              refine je_ps jb_X12_goesTo 2 (pc' := 102) (ls' := [_, _, _, _]) (st' := [_, _]) rfl ?_
              refine je_cvP' jb_X12_goesTo rfl (pc' := 105) rfl (jh_at (a := 45) rfl) (by rfl) (by first | decide | exact Nat.ble_eq_true_of_le (by omega)) (k_gturnsHere gw (by (show ((X1 ++ [C]).length : Int) ≤ 900); (rw [List.length_append, List.length_singleton]; omega)) hy hrb) (st' := []) rfl ?_
              refine je_ps jb_X12_goesTo 1 (pc' := 0) (ls' := [_, _, _, _]) (st' := []) rfl ?_
              first | (exfalso; omega) | (refine kv _ _ ⟨_, rfl, jh_eq ?_⟩; unfold xStep; rw [if_pos (show X2 + b < X3 ∨ X4 < X2 + b by omega), hC, List.append_assoc]; rfl) | (refine kv _ _ ⟨_, rfl, jh_eq ?_⟩; unfold xStep; rw [if_neg (show ¬ (X2 + b < X3 ∨ X4 < X2 + b) by omega), hC])
        · refine je_ps jb_X12_goesTo 2 (pc' := 35) (ls' := [_, _, _, _]) (st' := [_, _]) rfl ?_
          refine je_cvP' jb_X12_goesTo rfl (pc' := 38) rfl (jh_at (a := 45) rfl) (by rfl) (by first | decide | exact Nat.ble_eq_true_of_le (by omega)) (k_gwrites (c := C) (by (show (X1.length : Int) ≤ 1000); omega) hy (by omega)) (st' := []) rfl ?_
          obtain ⟨f1, f2, f3, f4, f5, f6⟩ := gH_f m (X1 ++ [C], X2, X3, X4) y
          have f4 : gH m (X1 ++ [C], X2, X3, X4) y 45 18 = X2 := f4
          refine je_ps jb_X12_goesTo 2 (pc' := 40) (ls' := [_, _, _, _]) (st' := [_, _]) rfl ?_
          refine je_get jb_X12_goesTo rfl (pc' := 43) rfl (jh_at (a := 45) rfl) (by rfl) (by rfl) ?_
          refine je_ps jb_X12_goesTo 1 (pc' := 44) (ls' := [_, _, _, _]) (st' := [_, _, _]) rfl ?_
          refine je_iadd jb_X12_goesTo rfl (pc' := 45) rfl ?_
          refine je_putI jb_X12_goesTo rfl (pc' := 48) rfl (j := 18) (a := 45) rfl (by rfl) (by rfl) (by rfl) (by rfl) ?_
          rw [gH_18]
          show je _ _ _ _ _ _ (jh (gH m (X1 ++ [C], gH m (X1 ++ [C], X2, X3, X4) y 45 18 + _, X3, X4) y) _ _) _
          rw [f4]
          first | rw [show X2 + 1 = X2 + b by omega] | rw [show X2 + -1 = X2 + b by omega]
          obtain ⟨q1, q2, q3, q4, q5, q6⟩ := gH_f m (X1 ++ [C], X2 + b, X3, X4) y
          have q4 : gH m (X1 ++ [C], X2 + b, X3, X4) y 45 18 = X2 + b := q4
          have q5 : gH m (X1 ++ [C], X2 + b, X3, X4) y 45 19 = X3 := q5
          have q6 : gH m (X1 ++ [C], X2 + b, X3, X4) y 45 20 = X4 := q6
          refine je_ps jb_X12_goesTo 1 (pc' := 49) (ls' := [_, _, _, _]) (st' := [_]) rfl ?_
          refine je_get jb_X12_goesTo rfl (pc' := 52) rfl (jh_at (a := 45) rfl) (by rfl) (by rfl) ?_
          refine je_ps jb_X12_goesTo 1 (pc' := 53) (ls' := [_, _, _, _]) (st' := [_, _]) rfl ?_
          refine je_get jb_X12_goesTo rfl (pc' := 56) rfl (jh_at (a := 45) rfl) (by rfl) (by rfl) ?_
          refine je_icmplt jb_X12_goesTo rfl (t := 70) rfl (pc' := 59) rfl (by first | omega | exact (hM _ _).1 | exact (hM _ _).2) (by first | omega | exact (hM _ _).1 | exact (hM _ _).2) (by first | omega | exact (hM _ _).1 | exact (hM _ _).2) (by first | omega | exact (hM _ _).1 | exact (hM _ _).2) (fun c56 => ?_) (fun c56 => ?_)
          · refine je_ps jb_X12_goesTo 2 (pc' := 72) (ls' := [_, _, _, _]) (st' := [_, _]) rfl ?_
            refine je_get jb_X12_goesTo rfl (pc' := 75) rfl (jh_at (a := 45) rfl) (by rfl) (by rfl) ?_
            refine je_ps jb_X12_goesTo 1 (pc' := 76) (ls' := [_, _, _, _]) (st' := [_, _, _]) rfl ?_
            refine je_get jb_X12_goesTo rfl (pc' := 79) rfl (jh_at (a := 45) rfl) (by rfl) (by rfl) ?_
            refine je_min jb_X12_goesTo rfl (pc' := 82) rfl rfl rfl (by first | omega | exact (hM _ _).1 | exact (hM _ _).2) (by first | omega | exact (hM _ _).1 | exact (hM _ _).2) (by first | omega | exact (hM _ _).1 | exact (hM _ _).2) (by first | omega | exact (hM _ _).1 | exact (hM _ _).2) ?_
            refine je_putI jb_X12_goesTo rfl (pc' := 85) rfl (j := 19) (a := 45) rfl (by rfl) (by rfl) (by rfl) (by rfl) ?_
            refine je_ps jb_X12_goesTo 2 (pc' := 87) (ls' := [_, _, _, _]) (st' := [_, _]) rfl ?_
            refine je_get jb_X12_goesTo rfl (pc' := 90) rfl (jh_at (a := 45) rfl) (by rfl) (by rfl) ?_
            refine je_ps jb_X12_goesTo 1 (pc' := 91) (ls' := [_, _, _, _]) (st' := [_, _, _]) rfl ?_
            refine je_get jb_X12_goesTo rfl (pc' := 94) rfl (jh_at (a := 45) rfl) (by rfl) (by rfl) ?_
            simp only [jU_same, ju_ne (show (20 : Int) ≠ 19 by decide), ju_ne (show (18 : Int) ≠ 19 by decide), q4, q5, q6]
            refine je_max jb_X12_goesTo rfl (pc' := 97) rfl rfl rfl (by first | omega | exact (hM _ _).1 | exact (hM _ _).2) (by first | omega | exact (hM _ _).1 | exact (hM _ _).2) (by first | omega | exact (hM _ _).1 | exact (hM _ _).2) (by first | omega | exact (hM _ _).1 | exact (hM _ _).2) ?_
            refine je_putI jb_X12_goesTo rfl (pc' := 100) rfl (j := 20) (a := 45) rfl (by rfl) (by rfl) (by rfl) (by rfl) ?_
            rw [gH_19]
            simp only [jU_same, ju_ne (show (20 : Int) ≠ 19 by decide), ju_ne (show (18 : Int) ≠ 19 by decide), q4, q5, q6]
            refine je_ps jb_X12_goesTo 2 (pc' := 102) (ls' := [_, _, _, _]) (st' := [_, _]) rfl ?_
            refine je_cvP' jb_X12_goesTo rfl (pc' := 105) rfl (jh_at (a := 45) rfl) (by rfl) (by first | decide | exact Nat.ble_eq_true_of_le (by omega)) (k_gturnsHere gw (by (show ((X1 ++ [C]).length : Int) ≤ 900); (rw [List.length_append, List.length_singleton]; omega)) hy hrb) (st' := []) rfl ?_
            refine je_ps jb_X12_goesTo 1 (pc' := 0) (ls' := [_, _, _, _]) (st' := []) rfl ?_
            first | (exfalso; omega) | (refine kv _ _ ⟨_, rfl, jh_eq ?_⟩; unfold xStep; rw [if_pos (show X2 + b < X3 ∨ X4 < X2 + b by omega), hC, List.append_assoc]; rfl) | (refine kv _ _ ⟨_, rfl, jh_eq ?_⟩; unfold xStep; rw [if_neg (show ¬ (X2 + b < X3 ∨ X4 < X2 + b) by omega), hC])
          · refine je_ps jb_X12_goesTo 1 (pc' := 60) (ls' := [_, _, _, _]) (st' := [_]) rfl ?_
            refine je_get jb_X12_goesTo rfl (pc' := 63) rfl (jh_at (a := 45) rfl) (by rfl) (by rfl) ?_
            refine je_ps jb_X12_goesTo 1 (pc' := 64) (ls' := [_, _, _, _]) (st' := [_, _]) rfl ?_
            refine je_get jb_X12_goesTo rfl (pc' := 67) rfl (jh_at (a := 45) rfl) (by rfl) (by rfl) ?_
            refine je_icmple jb_X12_goesTo rfl (t := 105) rfl (pc' := 70) rfl (by first | omega | exact (hM _ _).1 | exact (hM _ _).2) (by first | omega | exact (hM _ _).1 | exact (hM _ _).2) (by first | omega | exact (hM _ _).1 | exact (hM _ _).2) (by first | omega | exact (hM _ _).1 | exact (hM _ _).2) (fun c67 => ?_) (fun c67 => ?_)
            · refine je_ps jb_X12_goesTo 1 (pc' := 0) (ls' := [_, _, _, _]) (st' := []) rfl ?_
              first | (exfalso; omega) | (refine kv _ _ ⟨_, rfl, jh_eq ?_⟩; unfold xStep; rw [if_pos (show X2 + b < X3 ∨ X4 < X2 + b by omega), hC, List.append_assoc]; rfl) | (refine kv _ _ ⟨_, rfl, jh_eq ?_⟩; unfold xStep; rw [if_neg (show ¬ (X2 + b < X3 ∨ X4 < X2 + b) by omega), hC])
            · refine je_ps jb_X12_goesTo 2 (pc' := 72) (ls' := [_, _, _, _]) (st' := [_, _]) rfl ?_
              refine je_get jb_X12_goesTo rfl (pc' := 75) rfl (jh_at (a := 45) rfl) (by rfl) (by rfl) ?_
              refine je_ps jb_X12_goesTo 1 (pc' := 76) (ls' := [_, _, _, _]) (st' := [_, _, _]) rfl ?_
              refine je_get jb_X12_goesTo rfl (pc' := 79) rfl (jh_at (a := 45) rfl) (by rfl) (by rfl) ?_
              refine je_min jb_X12_goesTo rfl (pc' := 82) rfl rfl rfl (by first | omega | exact (hM _ _).1 | exact (hM _ _).2) (by first | omega | exact (hM _ _).1 | exact (hM _ _).2) (by first | omega | exact (hM _ _).1 | exact (hM _ _).2) (by first | omega | exact (hM _ _).1 | exact (hM _ _).2) ?_
              refine je_putI jb_X12_goesTo rfl (pc' := 85) rfl (j := 19) (a := 45) rfl (by rfl) (by rfl) (by rfl) (by rfl) ?_
              refine je_ps jb_X12_goesTo 2 (pc' := 87) (ls' := [_, _, _, _]) (st' := [_, _]) rfl ?_
              refine je_get jb_X12_goesTo rfl (pc' := 90) rfl (jh_at (a := 45) rfl) (by rfl) (by rfl) ?_
              refine je_ps jb_X12_goesTo 1 (pc' := 91) (ls' := [_, _, _, _]) (st' := [_, _, _]) rfl ?_
              refine je_get jb_X12_goesTo rfl (pc' := 94) rfl (jh_at (a := 45) rfl) (by rfl) (by rfl) ?_
              simp only [jU_same, ju_ne (show (20 : Int) ≠ 19 by decide), ju_ne (show (18 : Int) ≠ 19 by decide), q4, q5, q6]
              refine je_max jb_X12_goesTo rfl (pc' := 97) rfl rfl rfl (by first | omega | exact (hM _ _).1 | exact (hM _ _).2) (by first | omega | exact (hM _ _).1 | exact (hM _ _).2) (by first | omega | exact (hM _ _).1 | exact (hM _ _).2) (by first | omega | exact (hM _ _).1 | exact (hM _ _).2) ?_
              refine je_putI jb_X12_goesTo rfl (pc' := 100) rfl (j := 20) (a := 45) rfl (by rfl) (by rfl) (by rfl) (by rfl) ?_
              rw [gH_19]
              simp only [jU_same, ju_ne (show (20 : Int) ≠ 19 by decide), ju_ne (show (18 : Int) ≠ 19 by decide), q4, q5, q6]
              refine je_ps jb_X12_goesTo 2 (pc' := 102) (ls' := [_, _, _, _]) (st' := [_, _]) rfl ?_
              refine je_cvP' jb_X12_goesTo rfl (pc' := 105) rfl (jh_at (a := 45) rfl) (by rfl) (by first | decide | exact Nat.ble_eq_true_of_le (by omega)) (k_gturnsHere gw (by (show ((X1 ++ [C]).length : Int) ≤ 900); (rw [List.length_append, List.length_singleton]; omega)) hy hrb) (st' := []) rfl ?_
              refine je_ps jb_X12_goesTo 1 (pc' := 0) (ls' := [_, _, _, _]) (st' := []) rfl ?_
              first | (exfalso; omega) | (refine kv _ _ ⟨_, rfl, jh_eq ?_⟩; unfold xStep; rw [if_pos (show X2 + b < X3 ∨ X4 < X2 + b by omega), hC, List.append_assoc]; rfl) | (refine kv _ _ ⟨_, rfl, jh_eq ?_⟩; unfold xStep; rw [if_neg (show ¬ (X2 + b < X3 ∨ X4 < X2 + b) by omega), hC])
      · refine je_ps jb_X12_goesTo 6 (pc' := 25) (ls' := [_, _, _, _]) (st' := [_, _, _]) rfl ?_
        refine je_icmpne jb_X12_goesTo rfl (t := 33) rfl (pc' := 28) rfl (by first | omega | exact (hM _ _).1 | exact (hM _ _).2) (by first | omega | exact (hM _ _).1 | exact (hM _ _).2) (by first | omega | exact (hM _ _).1 | exact (hM _ _).2) (by first | omega | exact (hM _ _).1 | exact (hM _ _).2) (fun c25 => ?_) (fun c25 => ?_)
        · refine je_ps jb_X12_goesTo 1 (pc' := 35) (ls' := [_, _, _, _]) (st' := [_, _]) rfl ?_
          refine je_cvP' jb_X12_goesTo rfl (pc' := 38) rfl (jh_at (a := 45) rfl) (by rfl) (by first | decide | exact Nat.ble_eq_true_of_le (by omega)) (k_gwrites (c := C) (by (show (X1.length : Int) ≤ 1000); omega) hy (by omega)) (st' := []) rfl ?_
          obtain ⟨f1, f2, f3, f4, f5, f6⟩ := gH_f m (X1 ++ [C], X2, X3, X4) y
          have f4 : gH m (X1 ++ [C], X2, X3, X4) y 45 18 = X2 := f4
          refine je_ps jb_X12_goesTo 2 (pc' := 40) (ls' := [_, _, _, _]) (st' := [_, _]) rfl ?_
          refine je_get jb_X12_goesTo rfl (pc' := 43) rfl (jh_at (a := 45) rfl) (by rfl) (by rfl) ?_
          refine je_ps jb_X12_goesTo 1 (pc' := 44) (ls' := [_, _, _, _]) (st' := [_, _, _]) rfl ?_
          refine je_iadd jb_X12_goesTo rfl (pc' := 45) rfl ?_
          refine je_putI jb_X12_goesTo rfl (pc' := 48) rfl (j := 18) (a := 45) rfl (by rfl) (by rfl) (by rfl) (by rfl) ?_
          rw [gH_18]
          show je _ _ _ _ _ _ (jh (gH m (X1 ++ [C], gH m (X1 ++ [C], X2, X3, X4) y 45 18 + _, X3, X4) y) _ _) _
          rw [f4]
          first | rw [show X2 + 1 = X2 + b by omega] | rw [show X2 + -1 = X2 + b by omega]
          obtain ⟨q1, q2, q3, q4, q5, q6⟩ := gH_f m (X1 ++ [C], X2 + b, X3, X4) y
          have q4 : gH m (X1 ++ [C], X2 + b, X3, X4) y 45 18 = X2 + b := q4
          have q5 : gH m (X1 ++ [C], X2 + b, X3, X4) y 45 19 = X3 := q5
          have q6 : gH m (X1 ++ [C], X2 + b, X3, X4) y 45 20 = X4 := q6
          refine je_ps jb_X12_goesTo 1 (pc' := 49) (ls' := [_, _, _, _]) (st' := [_]) rfl ?_
          refine je_get jb_X12_goesTo rfl (pc' := 52) rfl (jh_at (a := 45) rfl) (by rfl) (by rfl) ?_
          refine je_ps jb_X12_goesTo 1 (pc' := 53) (ls' := [_, _, _, _]) (st' := [_, _]) rfl ?_
          refine je_get jb_X12_goesTo rfl (pc' := 56) rfl (jh_at (a := 45) rfl) (by rfl) (by rfl) ?_
          refine je_icmplt jb_X12_goesTo rfl (t := 70) rfl (pc' := 59) rfl (by first | omega | exact (hM _ _).1 | exact (hM _ _).2) (by first | omega | exact (hM _ _).1 | exact (hM _ _).2) (by first | omega | exact (hM _ _).1 | exact (hM _ _).2) (by first | omega | exact (hM _ _).1 | exact (hM _ _).2) (fun c56 => ?_) (fun c56 => ?_)
          · refine je_ps jb_X12_goesTo 2 (pc' := 72) (ls' := [_, _, _, _]) (st' := [_, _]) rfl ?_
            refine je_get jb_X12_goesTo rfl (pc' := 75) rfl (jh_at (a := 45) rfl) (by rfl) (by rfl) ?_
            refine je_ps jb_X12_goesTo 1 (pc' := 76) (ls' := [_, _, _, _]) (st' := [_, _, _]) rfl ?_
            refine je_get jb_X12_goesTo rfl (pc' := 79) rfl (jh_at (a := 45) rfl) (by rfl) (by rfl) ?_
            refine je_min jb_X12_goesTo rfl (pc' := 82) rfl rfl rfl (by first | omega | exact (hM _ _).1 | exact (hM _ _).2) (by first | omega | exact (hM _ _).1 | exact (hM _ _).2) (by first | omega | exact (hM _ _).1 | exact (hM _ _).2) (by first | omega | exact (hM _ _).1 | exact (hM _ _).2) ?_
            refine je_putI jb_X12_goesTo rfl (pc' := 85) rfl (j := 19) (a := 45) rfl (by rfl) (by rfl) (by rfl) (by rfl) ?_
            refine je_ps jb_X12_goesTo 2 (pc' := 87) (ls' := [_, _, _, _]) (st' := [_, _]) rfl ?_
            refine je_get jb_X12_goesTo rfl (pc' := 90) rfl (jh_at (a := 45) rfl) (by rfl) (by rfl) ?_
            refine je_ps jb_X12_goesTo 1 (pc' := 91) (ls' := [_, _, _, _]) (st' := [_, _, _]) rfl ?_
            refine je_get jb_X12_goesTo rfl (pc' := 94) rfl (jh_at (a := 45) rfl) (by rfl) (by rfl) ?_
            simp only [jU_same, ju_ne (show (20 : Int) ≠ 19 by decide), ju_ne (show (18 : Int) ≠ 19 by decide), q4, q5, q6]
            refine je_max jb_X12_goesTo rfl (pc' := 97) rfl rfl rfl (by first | omega | exact (hM _ _).1 | exact (hM _ _).2) (by first | omega | exact (hM _ _).1 | exact (hM _ _).2) (by first | omega | exact (hM _ _).1 | exact (hM _ _).2) (by first | omega | exact (hM _ _).1 | exact (hM _ _).2) ?_
            refine je_putI jb_X12_goesTo rfl (pc' := 100) rfl (j := 20) (a := 45) rfl (by rfl) (by rfl) (by rfl) (by rfl) ?_
            rw [gH_19]
            simp only [jU_same, ju_ne (show (20 : Int) ≠ 19 by decide), ju_ne (show (18 : Int) ≠ 19 by decide), q4, q5, q6]
            refine je_ps jb_X12_goesTo 2 (pc' := 102) (ls' := [_, _, _, _]) (st' := [_, _]) rfl ?_
            refine je_cvP' jb_X12_goesTo rfl (pc' := 105) rfl (jh_at (a := 45) rfl) (by rfl) (by first | decide | exact Nat.ble_eq_true_of_le (by omega)) (k_gturnsHere gw (by (show ((X1 ++ [C]).length : Int) ≤ 900); (rw [List.length_append, List.length_singleton]; omega)) hy hrb) (st' := []) rfl ?_
            refine je_ps jb_X12_goesTo 1 (pc' := 0) (ls' := [_, _, _, _]) (st' := []) rfl ?_
            first | (exfalso; omega) | (refine kv _ _ ⟨_, rfl, jh_eq ?_⟩; unfold xStep; rw [if_pos (show X2 + b < X3 ∨ X4 < X2 + b by omega), hC, List.append_assoc]; rfl) | (refine kv _ _ ⟨_, rfl, jh_eq ?_⟩; unfold xStep; rw [if_neg (show ¬ (X2 + b < X3 ∨ X4 < X2 + b) by omega), hC])
          · refine je_ps jb_X12_goesTo 1 (pc' := 60) (ls' := [_, _, _, _]) (st' := [_]) rfl ?_
            refine je_get jb_X12_goesTo rfl (pc' := 63) rfl (jh_at (a := 45) rfl) (by rfl) (by rfl) ?_
            refine je_ps jb_X12_goesTo 1 (pc' := 64) (ls' := [_, _, _, _]) (st' := [_, _]) rfl ?_
            refine je_get jb_X12_goesTo rfl (pc' := 67) rfl (jh_at (a := 45) rfl) (by rfl) (by rfl) ?_
            refine je_icmple jb_X12_goesTo rfl (t := 105) rfl (pc' := 70) rfl (by first | omega | exact (hM _ _).1 | exact (hM _ _).2) (by first | omega | exact (hM _ _).1 | exact (hM _ _).2) (by first | omega | exact (hM _ _).1 | exact (hM _ _).2) (by first | omega | exact (hM _ _).1 | exact (hM _ _).2) (fun c67 => ?_) (fun c67 => ?_)
            · refine je_ps jb_X12_goesTo 1 (pc' := 0) (ls' := [_, _, _, _]) (st' := []) rfl ?_
              first | (exfalso; omega) | (refine kv _ _ ⟨_, rfl, jh_eq ?_⟩; unfold xStep; rw [if_pos (show X2 + b < X3 ∨ X4 < X2 + b by omega), hC, List.append_assoc]; rfl) | (refine kv _ _ ⟨_, rfl, jh_eq ?_⟩; unfold xStep; rw [if_neg (show ¬ (X2 + b < X3 ∨ X4 < X2 + b) by omega), hC])
            · refine je_ps jb_X12_goesTo 2 (pc' := 72) (ls' := [_, _, _, _]) (st' := [_, _]) rfl ?_
              refine je_get jb_X12_goesTo rfl (pc' := 75) rfl (jh_at (a := 45) rfl) (by rfl) (by rfl) ?_
              refine je_ps jb_X12_goesTo 1 (pc' := 76) (ls' := [_, _, _, _]) (st' := [_, _, _]) rfl ?_
              refine je_get jb_X12_goesTo rfl (pc' := 79) rfl (jh_at (a := 45) rfl) (by rfl) (by rfl) ?_
              refine je_min jb_X12_goesTo rfl (pc' := 82) rfl rfl rfl (by first | omega | exact (hM _ _).1 | exact (hM _ _).2) (by first | omega | exact (hM _ _).1 | exact (hM _ _).2) (by first | omega | exact (hM _ _).1 | exact (hM _ _).2) (by first | omega | exact (hM _ _).1 | exact (hM _ _).2) ?_
              refine je_putI jb_X12_goesTo rfl (pc' := 85) rfl (j := 19) (a := 45) rfl (by rfl) (by rfl) (by rfl) (by rfl) ?_
              refine je_ps jb_X12_goesTo 2 (pc' := 87) (ls' := [_, _, _, _]) (st' := [_, _]) rfl ?_
              refine je_get jb_X12_goesTo rfl (pc' := 90) rfl (jh_at (a := 45) rfl) (by rfl) (by rfl) ?_
              refine je_ps jb_X12_goesTo 1 (pc' := 91) (ls' := [_, _, _, _]) (st' := [_, _, _]) rfl ?_
              refine je_get jb_X12_goesTo rfl (pc' := 94) rfl (jh_at (a := 45) rfl) (by rfl) (by rfl) ?_
              simp only [jU_same, ju_ne (show (20 : Int) ≠ 19 by decide), ju_ne (show (18 : Int) ≠ 19 by decide), q4, q5, q6]
              refine je_max jb_X12_goesTo rfl (pc' := 97) rfl rfl rfl (by first | omega | exact (hM _ _).1 | exact (hM _ _).2) (by first | omega | exact (hM _ _).1 | exact (hM _ _).2) (by first | omega | exact (hM _ _).1 | exact (hM _ _).2) (by first | omega | exact (hM _ _).1 | exact (hM _ _).2) ?_
              refine je_putI jb_X12_goesTo rfl (pc' := 100) rfl (j := 20) (a := 45) rfl (by rfl) (by rfl) (by rfl) (by rfl) ?_
              rw [gH_19]
              simp only [jU_same, ju_ne (show (20 : Int) ≠ 19 by decide), ju_ne (show (18 : Int) ≠ 19 by decide), q4, q5, q6]
              refine je_ps jb_X12_goesTo 2 (pc' := 102) (ls' := [_, _, _, _]) (st' := [_, _]) rfl ?_
              refine je_cvP' jb_X12_goesTo rfl (pc' := 105) rfl (jh_at (a := 45) rfl) (by rfl) (by first | decide | exact Nat.ble_eq_true_of_le (by omega)) (k_gturnsHere gw (by (show ((X1 ++ [C]).length : Int) ≤ 900); (rw [List.length_append, List.length_singleton]; omega)) hy hrb) (st' := []) rfl ?_
              refine je_ps jb_X12_goesTo 1 (pc' := 0) (ls' := [_, _, _, _]) (st' := []) rfl ?_
              first | (exfalso; omega) | (refine kv _ _ ⟨_, rfl, jh_eq ?_⟩; unfold xStep; rw [if_pos (show X2 + b < X3 ∨ X4 < X2 + b by omega), hC, List.append_assoc]; rfl) | (refine kv _ _ ⟨_, rfl, jh_eq ?_⟩; unfold xStep; rw [if_neg (show ¬ (X2 + b < X3 ∨ X4 < X2 + b) by omega), hC])
        · refine je_ps jb_X12_goesTo 2 (pc' := 35) (ls' := [_, _, _, _]) (st' := [_, _]) rfl ?_
          refine je_cvP' jb_X12_goesTo rfl (pc' := 38) rfl (jh_at (a := 45) rfl) (by rfl) (by first | decide | exact Nat.ble_eq_true_of_le (by omega)) (k_gwrites (c := C) (by (show (X1.length : Int) ≤ 1000); omega) hy (by omega)) (st' := []) rfl ?_
          obtain ⟨f1, f2, f3, f4, f5, f6⟩ := gH_f m (X1 ++ [C], X2, X3, X4) y
          have f4 : gH m (X1 ++ [C], X2, X3, X4) y 45 18 = X2 := f4
          refine je_ps jb_X12_goesTo 2 (pc' := 40) (ls' := [_, _, _, _]) (st' := [_, _]) rfl ?_
          refine je_get jb_X12_goesTo rfl (pc' := 43) rfl (jh_at (a := 45) rfl) (by rfl) (by rfl) ?_
          refine je_ps jb_X12_goesTo 1 (pc' := 44) (ls' := [_, _, _, _]) (st' := [_, _, _]) rfl ?_
          refine je_iadd jb_X12_goesTo rfl (pc' := 45) rfl ?_
          refine je_putI jb_X12_goesTo rfl (pc' := 48) rfl (j := 18) (a := 45) rfl (by rfl) (by rfl) (by rfl) (by rfl) ?_
          rw [gH_18]
          show je _ _ _ _ _ _ (jh (gH m (X1 ++ [C], gH m (X1 ++ [C], X2, X3, X4) y 45 18 + _, X3, X4) y) _ _) _
          rw [f4]
          first | rw [show X2 + 1 = X2 + b by omega] | rw [show X2 + -1 = X2 + b by omega]
          obtain ⟨q1, q2, q3, q4, q5, q6⟩ := gH_f m (X1 ++ [C], X2 + b, X3, X4) y
          have q4 : gH m (X1 ++ [C], X2 + b, X3, X4) y 45 18 = X2 + b := q4
          have q5 : gH m (X1 ++ [C], X2 + b, X3, X4) y 45 19 = X3 := q5
          have q6 : gH m (X1 ++ [C], X2 + b, X3, X4) y 45 20 = X4 := q6
          refine je_ps jb_X12_goesTo 1 (pc' := 49) (ls' := [_, _, _, _]) (st' := [_]) rfl ?_
          refine je_get jb_X12_goesTo rfl (pc' := 52) rfl (jh_at (a := 45) rfl) (by rfl) (by rfl) ?_
          refine je_ps jb_X12_goesTo 1 (pc' := 53) (ls' := [_, _, _, _]) (st' := [_, _]) rfl ?_
          refine je_get jb_X12_goesTo rfl (pc' := 56) rfl (jh_at (a := 45) rfl) (by rfl) (by rfl) ?_
          refine je_icmplt jb_X12_goesTo rfl (t := 70) rfl (pc' := 59) rfl (by first | omega | exact (hM _ _).1 | exact (hM _ _).2) (by first | omega | exact (hM _ _).1 | exact (hM _ _).2) (by first | omega | exact (hM _ _).1 | exact (hM _ _).2) (by first | omega | exact (hM _ _).1 | exact (hM _ _).2) (fun c56 => ?_) (fun c56 => ?_)
          · refine je_ps jb_X12_goesTo 2 (pc' := 72) (ls' := [_, _, _, _]) (st' := [_, _]) rfl ?_
            refine je_get jb_X12_goesTo rfl (pc' := 75) rfl (jh_at (a := 45) rfl) (by rfl) (by rfl) ?_
            refine je_ps jb_X12_goesTo 1 (pc' := 76) (ls' := [_, _, _, _]) (st' := [_, _, _]) rfl ?_
            refine je_get jb_X12_goesTo rfl (pc' := 79) rfl (jh_at (a := 45) rfl) (by rfl) (by rfl) ?_
            refine je_min jb_X12_goesTo rfl (pc' := 82) rfl rfl rfl (by first | omega | exact (hM _ _).1 | exact (hM _ _).2) (by first | omega | exact (hM _ _).1 | exact (hM _ _).2) (by first | omega | exact (hM _ _).1 | exact (hM _ _).2) (by first | omega | exact (hM _ _).1 | exact (hM _ _).2) ?_
            refine je_putI jb_X12_goesTo rfl (pc' := 85) rfl (j := 19) (a := 45) rfl (by rfl) (by rfl) (by rfl) (by rfl) ?_
            refine je_ps jb_X12_goesTo 2 (pc' := 87) (ls' := [_, _, _, _]) (st' := [_, _]) rfl ?_
            refine je_get jb_X12_goesTo rfl (pc' := 90) rfl (jh_at (a := 45) rfl) (by rfl) (by rfl) ?_
            refine je_ps jb_X12_goesTo 1 (pc' := 91) (ls' := [_, _, _, _]) (st' := [_, _, _]) rfl ?_
            refine je_get jb_X12_goesTo rfl (pc' := 94) rfl (jh_at (a := 45) rfl) (by rfl) (by rfl) ?_
            simp only [jU_same, ju_ne (show (20 : Int) ≠ 19 by decide), ju_ne (show (18 : Int) ≠ 19 by decide), q4, q5, q6]
            refine je_max jb_X12_goesTo rfl (pc' := 97) rfl rfl rfl (by first | omega | exact (hM _ _).1 | exact (hM _ _).2) (by first | omega | exact (hM _ _).1 | exact (hM _ _).2) (by first | omega | exact (hM _ _).1 | exact (hM _ _).2) (by first | omega | exact (hM _ _).1 | exact (hM _ _).2) ?_
            refine je_putI jb_X12_goesTo rfl (pc' := 100) rfl (j := 20) (a := 45) rfl (by rfl) (by rfl) (by rfl) (by rfl) ?_
            rw [gH_19]
            simp only [jU_same, ju_ne (show (20 : Int) ≠ 19 by decide), ju_ne (show (18 : Int) ≠ 19 by decide), q4, q5, q6]
            refine je_ps jb_X12_goesTo 2 (pc' := 102) (ls' := [_, _, _, _]) (st' := [_, _]) rfl ?_
            refine je_cvP' jb_X12_goesTo rfl (pc' := 105) rfl (jh_at (a := 45) rfl) (by rfl) (by first | decide | exact Nat.ble_eq_true_of_le (by omega)) (k_gturnsHere gw (by (show ((X1 ++ [C]).length : Int) ≤ 900); (rw [List.length_append, List.length_singleton]; omega)) hy hrb) (st' := []) rfl ?_
            refine je_ps jb_X12_goesTo 1 (pc' := 0) (ls' := [_, _, _, _]) (st' := []) rfl ?_
            first | (exfalso; omega) | (refine kv _ _ ⟨_, rfl, jh_eq ?_⟩; unfold xStep; rw [if_pos (show X2 + b < X3 ∨ X4 < X2 + b by omega), hC, List.append_assoc]; rfl) | (refine kv _ _ ⟨_, rfl, jh_eq ?_⟩; unfold xStep; rw [if_neg (show ¬ (X2 + b < X3 ∨ X4 < X2 + b) by omega), hC])
          · refine je_ps jb_X12_goesTo 1 (pc' := 60) (ls' := [_, _, _, _]) (st' := [_]) rfl ?_
            refine je_get jb_X12_goesTo rfl (pc' := 63) rfl (jh_at (a := 45) rfl) (by rfl) (by rfl) ?_
            refine je_ps jb_X12_goesTo 1 (pc' := 64) (ls' := [_, _, _, _]) (st' := [_, _]) rfl ?_
            refine je_get jb_X12_goesTo rfl (pc' := 67) rfl (jh_at (a := 45) rfl) (by rfl) (by rfl) ?_
            refine je_icmple jb_X12_goesTo rfl (t := 105) rfl (pc' := 70) rfl (by first | omega | exact (hM _ _).1 | exact (hM _ _).2) (by first | omega | exact (hM _ _).1 | exact (hM _ _).2) (by first | omega | exact (hM _ _).1 | exact (hM _ _).2) (by first | omega | exact (hM _ _).1 | exact (hM _ _).2) (fun c67 => ?_) (fun c67 => ?_)
            · refine je_ps jb_X12_goesTo 1 (pc' := 0) (ls' := [_, _, _, _]) (st' := []) rfl ?_
              first | (exfalso; omega) | (refine kv _ _ ⟨_, rfl, jh_eq ?_⟩; unfold xStep; rw [if_pos (show X2 + b < X3 ∨ X4 < X2 + b by omega), hC, List.append_assoc]; rfl) | (refine kv _ _ ⟨_, rfl, jh_eq ?_⟩; unfold xStep; rw [if_neg (show ¬ (X2 + b < X3 ∨ X4 < X2 + b) by omega), hC])
            · refine je_ps jb_X12_goesTo 2 (pc' := 72) (ls' := [_, _, _, _]) (st' := [_, _]) rfl ?_
              refine je_get jb_X12_goesTo rfl (pc' := 75) rfl (jh_at (a := 45) rfl) (by rfl) (by rfl) ?_
              refine je_ps jb_X12_goesTo 1 (pc' := 76) (ls' := [_, _, _, _]) (st' := [_, _, _]) rfl ?_
              refine je_get jb_X12_goesTo rfl (pc' := 79) rfl (jh_at (a := 45) rfl) (by rfl) (by rfl) ?_
              refine je_min jb_X12_goesTo rfl (pc' := 82) rfl rfl rfl (by first | omega | exact (hM _ _).1 | exact (hM _ _).2) (by first | omega | exact (hM _ _).1 | exact (hM _ _).2) (by first | omega | exact (hM _ _).1 | exact (hM _ _).2) (by first | omega | exact (hM _ _).1 | exact (hM _ _).2) ?_
              refine je_putI jb_X12_goesTo rfl (pc' := 85) rfl (j := 19) (a := 45) rfl (by rfl) (by rfl) (by rfl) (by rfl) ?_
              refine je_ps jb_X12_goesTo 2 (pc' := 87) (ls' := [_, _, _, _]) (st' := [_, _]) rfl ?_
              refine je_get jb_X12_goesTo rfl (pc' := 90) rfl (jh_at (a := 45) rfl) (by rfl) (by rfl) ?_
              refine je_ps jb_X12_goesTo 1 (pc' := 91) (ls' := [_, _, _, _]) (st' := [_, _, _]) rfl ?_
              refine je_get jb_X12_goesTo rfl (pc' := 94) rfl (jh_at (a := 45) rfl) (by rfl) (by rfl) ?_
              simp only [jU_same, ju_ne (show (20 : Int) ≠ 19 by decide), ju_ne (show (18 : Int) ≠ 19 by decide), q4, q5, q6]
              refine je_max jb_X12_goesTo rfl (pc' := 97) rfl rfl rfl (by first | omega | exact (hM _ _).1 | exact (hM _ _).2) (by first | omega | exact (hM _ _).1 | exact (hM _ _).2) (by first | omega | exact (hM _ _).1 | exact (hM _ _).2) (by first | omega | exact (hM _ _).1 | exact (hM _ _).2) ?_
              refine je_putI jb_X12_goesTo rfl (pc' := 100) rfl (j := 20) (a := 45) rfl (by rfl) (by rfl) (by rfl) (by rfl) ?_
              rw [gH_19]
              simp only [jU_same, ju_ne (show (20 : Int) ≠ 19 by decide), ju_ne (show (18 : Int) ≠ 19 by decide), q4, q5, q6]
              refine je_ps jb_X12_goesTo 2 (pc' := 102) (ls' := [_, _, _, _]) (st' := [_, _]) rfl ?_
              refine je_cvP' jb_X12_goesTo rfl (pc' := 105) rfl (jh_at (a := 45) rfl) (by rfl) (by first | decide | exact Nat.ble_eq_true_of_le (by omega)) (k_gturnsHere gw (by (show ((X1 ++ [C]).length : Int) ≤ 900); (rw [List.length_append, List.length_singleton]; omega)) hy hrb) (st' := []) rfl ?_
              refine je_ps jb_X12_goesTo 1 (pc' := 0) (ls' := [_, _, _, _]) (st' := []) rfl ?_
              first | (exfalso; omega) | (refine kv _ _ ⟨_, rfl, jh_eq ?_⟩; unfold xStep; rw [if_pos (show X2 + b < X3 ∨ X4 < X2 + b by omega), hC, List.append_assoc]; rfl) | (refine kv _ _ ⟨_, rfl, jh_eq ?_⟩; unfold xStep; rw [if_neg (show ¬ (X2 + b < X3 ∨ X4 < X2 + b) by omega), hC])
  · obtain ⟨z, rfl, rfl⟩ := gv
    have hbv : (b = 1 ∧ b * (N : Int) = (N : Int)) ∨ (b = -1 ∧ b * (N : Int) = -(N : Int)) := by rcases hb1 with h | h; (left; subst h; omega); (right; subst h; omega)
    have ea := xIt_at (s := 0) (n := n) (k := k) (b := b) (L := L) x N
    obtain ⟨e1, e2, e3, e4, e5, e6⟩ := gH_f m (xIt 0 n k L b x N) y
    refine je_ps jb_X12_goesTo 1 (pc' := 1) (ls' := [_, _, _, _]) (st' := [_]) rfl ?_
    refine je_get jb_X12_goesTo rfl (pc' := 4) rfl (jh_at (a := 45) rfl) (by rfl) (by rfl) ?_
    refine je_ps jb_X12_goesTo 1 (pc' := 5) (ls' := [_, _, _, _]) (st' := [_, _]) rfl ?_
    refine je_icmpeq jb_X12_goesTo rfl (t := 108) rfl (pc' := 8) rfl (by first | omega | exact (hM _ _).1 | exact (hM _ _).2) (by first | omega | exact (hM _ _).1 | exact (hM _ _).2) (by first | omega | exact (hM _ _).1 | exact (hM _ _).2) (by first | omega | exact (hM _ _).1 | exact (hM _ _).2) (fun c5 => ?_) (fun c5 => ?_)
    · exact je_ret jb_X12_goesTo rfl (by rfl) ⟨rfl, rfl⟩
    · first | (exfalso; omega) | (cases c5; done) | (exfalso; simp_all; done)
end C77
