/-! CALLS of the other side: words written, the end -/
section C78
variable {sc : Nat × (Nat → Int32)} {m : Nat → Int → Int} {r : Nat → Nat → Value} {T : jx_H} {σ : jx_H}
def lLM (L : Int → Int) : Nat → Int
  | 0 => 0
  | v + 1 => if 0 < L (11 - (v : Int)) then -1 - (v : Int) else lLM L v
def gLM (L : Int → Int) : Nat → Int
  | 0 => 0
  | v + 1 => if 0 < L (13 + (v : Int)) then 1 + (v : Int) else gLM L v
theorem fLow_chr {L : Int → Int} : ∀ v : Nat, fLow 0 L 0 v ≤ 0 ∧ (fLow 0 L 0 v = 0 ∨ ∃ q : Nat, q < v ∧ 0 < L (q : Int) ∧ fLow 0 L 0 v = -12 + (q : Int)) ∧ ∀ q : Nat, q < v → 0 < L (q : Int) → fLow 0 L 0 v ≤ -12 + (q : Int)
  | 0 => ⟨Int.le_refl 0, Or.inl rfl, fun q hq => by omega⟩
  | v + 1 => by
    obtain ⟨h1, h2, h3⟩ := fLow_chr (L := L) v
    have e : fLow 0 L 0 (v + 1) = if 0 < L (v : Int) then min (fLow 0 L 0 v) (-12 + (v : Int) - 0) else fLow 0 L 0 v := rfl
    rw [e]
    generalize fLow 0 L 0 v = a at *
    by_cases c : 0 < L (v : Int)
    · rw [if_pos c]
      refine ⟨by omega, ?_, fun q hq hL => ?_⟩
      · by_cases c2 : a ≤ -12 + (v : Int) - 0
        · rcases h2 with h2 | ⟨q, q1, q2, q3⟩
          · left; omega
          · right; exact ⟨q, by omega, q2, by omega⟩
        · right; exact ⟨v, by omega, c, by omega⟩
      · by_cases c2 : q = v
        · subst c2; omega
        · have := h3 q (by omega) hL; omega
    · rw [if_neg c]
      refine ⟨h1, ?_, fun q hq hL => ?_⟩
      · rcases h2 with h2 | ⟨q, q1, q2, q3⟩
        · left; exact h2
        · right; exact ⟨q, by omega, q2, q3⟩
      · by_cases c2 : q = v
        · subst c2; exact absurd hL c
        · exact h3 q (by omega) hL
theorem fHigh_chr {L : Int → Int} : ∀ v : Nat, 0 ≤ fHigh 0 L 0 v ∧ (fHigh 0 L 0 v = 0 ∨ ∃ q : Nat, q < v ∧ 0 < L (q : Int) ∧ fHigh 0 L 0 v = -12 + (q : Int)) ∧ ∀ q : Nat, q < v → 0 < L (q : Int) → -12 + (q : Int) ≤ fHigh 0 L 0 v
  | 0 => ⟨Int.le_refl 0, Or.inl rfl, fun q hq => by omega⟩
  | v + 1 => by
    obtain ⟨h1, h2, h3⟩ := fHigh_chr (L := L) v
    have e : fHigh 0 L 0 (v + 1) = if 0 < L (v : Int) then max (fHigh 0 L 0 v) (-12 + (v : Int) - 0) else fHigh 0 L 0 v := rfl
    rw [e]
    generalize fHigh 0 L 0 v = a at *
    by_cases c : 0 < L (v : Int)
    · rw [if_pos c]
      refine ⟨by omega, ?_, fun q hq hL => ?_⟩
      · by_cases c2 : -12 + (v : Int) - 0 ≤ a
        · rcases h2 with h2 | ⟨q, q1, q2, q3⟩
          · left; omega
          · right; exact ⟨q, by omega, q2, by omega⟩
        · right; exact ⟨v, by omega, c, by omega⟩
      · by_cases c2 : q = v
        · subst c2; omega
        · have := h3 q (by omega) hL; omega
    · rw [if_neg c]
      refine ⟨h1, ?_, fun q hq hL => ?_⟩
      · rcases h2 with h2 | ⟨q, q1, q2, q3⟩
        · left; exact h2
        · right; exact ⟨q, by omega, q2, q3⟩
      · by_cases c2 : q = v
        · subst c2; exact absurd hL c
        · exact h3 q (by omega) hL
theorem lLM_chr {L : Int → Int} : ∀ v : Nat, (-(v : Int) ≤ lLM L v ∧ lLM L v ≤ 0) ∧ (lLM L v = 0 ∨ 0 < L (lLM L v + 12)) ∧ ∀ p : Int, -(v : Int) ≤ p → p < 0 → 0 < L (p + 12) → lLM L v ≤ p
  | 0 => ⟨⟨Int.le_refl 0, Int.le_refl 0⟩, Or.inl rfl, fun p h1 h2 => by omega⟩
  | v + 1 => by
    obtain ⟨h1, h2, h3⟩ := lLM_chr (L := L) v
    have e : lLM L (v + 1) = if 0 < L (11 - (v : Int)) then -1 - (v : Int) else lLM L v := rfl
    rw [e]
    by_cases c : 0 < L (11 - (v : Int))
    · rw [if_pos c]
      exact ⟨by omega, Or.inr (by rw [show -1 - (v : Int) + 12 = 11 - (v : Int) by omega]; exact c), fun p p0 p1 _ => by omega⟩
    · rw [if_neg c]
      refine ⟨by omega, h2, fun p p0 p1 hp => ?_⟩
      by_cases c2 : p = -1 - (v : Int)
      · subst c2
        rw [show -1 - (v : Int) + 12 = 11 - (v : Int) by omega] at hp
        exact absurd hp c
      · exact h3 p (by omega) p1 hp
theorem gLM_chr {L : Int → Int} : ∀ v : Nat, (0 ≤ gLM L v ∧ gLM L v ≤ (v : Int)) ∧ (gLM L v = 0 ∨ 0 < L (gLM L v + 12)) ∧ ∀ p : Int, 0 < p → p ≤ (v : Int) → 0 < L (p + 12) → p ≤ gLM L v
  | 0 => ⟨⟨Int.le_refl 0, Int.le_refl 0⟩, Or.inl rfl, fun p h1 h2 => by omega⟩
  | v + 1 => by
    obtain ⟨h1, h2, h3⟩ := gLM_chr (L := L) v
    have e : gLM L (v + 1) = if 0 < L (13 + (v : Int)) then 1 + (v : Int) else gLM L v := rfl
    rw [e]
    by_cases c : 0 < L (13 + (v : Int))
    · rw [if_pos c]
      exact ⟨by omega, Or.inr (by rw [show 1 + (v : Int) + 12 = 13 + (v : Int) by omega]; exact c), fun p p0 p1 _ => by omega⟩
    · rw [if_neg c]
      refine ⟨by omega, h2, fun p p0 p1 hp => ?_⟩
      by_cases c2 : p = 1 + (v : Int)
      · subst c2
        rw [show 1 + (v : Int) + 12 = 13 + (v : Int) by omega] at hp
        exact absurd hp c
      · exact h3 p p0 (by omega) hp
theorem lLM_12 (L : Int → Int) : lLM L 12 = fLow 0 L 0 25 := by
  obtain ⟨a1, a2, a3⟩ := fLow_chr (L := L) 25
  obtain ⟨b1, b2, b3⟩ := lLM_chr (L := L) 12
  generalize fLow 0 L 0 25 = a at *
  generalize lLM L 12 = b at *
  have h1 : a ≤ b := by
    rcases b2 with b2 | b2
    · omega
    · have := a3 (b + 12).toNat (by omega) (by rw [show (((b + 12).toNat : Nat) : Int) = b + 12 by omega]; exact b2)
      omega
  have h2 : b ≤ a := by
    rcases a2 with a2 | ⟨q, q1, q2, q3⟩
    · omega
    · by_cases c : a = 0
      · omega
      · exact b3 a (by omega) (by omega) (by rw [show a + 12 = (q : Int) by omega]; exact q2)
  omega
theorem gLM_12 (L : Int → Int) : gLM L 12 = fHigh 0 L 0 25 := by
  obtain ⟨a1, a2, a3⟩ := fHigh_chr (L := L) 25
  obtain ⟨b1, b2, b3⟩ := gLM_chr (L := L) 12
  generalize fHigh 0 L 0 25 = a at *
  generalize gLM L 12 = b at *
  have h1 : b ≤ a := by
    rcases b2 with b2 | b2
    · omega
    · have := a3 (b + 12).toNat (by omega) (by rw [show (((b + 12).toNat : Nat) : Int) = b + 12 by omega]; exact b2)
      omega
  have h2 : a ≤ b := by
    rcases a2 with a2 | ⟨q, q1, q2, q3⟩
    · omega
    · by_cases c : a = 0
      · omega
      · exact b3 a (by omega) (by omega) (by rw [show a + 12 = (q : Int) by omega]; exact q2)
  omega
theorem k_gleastLit {w n k e : Int} {L : Int → Int} (g : gWk m w 0 n k L e) : jq sc 4 jm_X12_leastLit [.ref 45, .int (jI w)] (jh m r T) (jP (some (.int (jI (fLow 0 L 0 25)))) (jh m r T)) := by
  have gs := g.1.2
  have hn : n = 25 := by unfold fS at gs; omega
  have bk : 2 ≤ k ∧ k ≤ 5 := gs.2
  have e2 := g.1.1.2.1
  have e3 : m 45 3 = -12 := g.1.1.2.2.1
  rw [← lLM_12]
  refine je_in jb_X12_leastLit rfl (ls := [_, _, _, _]) rfl ?_
  refine je_ps jb_X12_leastLit 4 (pc' := 4) (ls' := [_, _, _, _]) (st' := []) rfl ?_
  refine je_loop (fun (v : Nat) ls σ' => ∃ C, ls = [.ref 45, .int (jI w), .int (jI (lLM L v)), .int (jI C)] ∧ σ' = jh m r T ∧ C = -1 - (v : Int)) (12) ⟨_, rfl, rfl, by omega⟩ (fun v hv ls σ' gv kv => ?_) (fun ls σ' gv => ?_)
  · obtain ⟨C, rfl, rfl, fv⟩ := gv
    subst fv
    have hb := (lLM_chr (L := L) v).1
    have hL := g.2.2.2.2.1.1 (11 - (v : Int))
    refine je_ps jb_X12_leastLit 2 (pc' := 6) (ls' := [_, _, _, _]) (st' := [_, _]) rfl ?_
    refine je_get jb_X12_leastLit rfl (pc' := 9) rfl (jh_at (a := 45) rfl) (by rfl) (by rfl) ?_
    refine je_icmplt jb_X12_leastLit rfl (t := 33) rfl (pc' := 12) rfl (by first | omega | exact (hM _ _).1 | exact (hM _ _).2) (by first | omega | exact (hM _ _).1 | exact (hM _ _).2) (by first | omega | exact (hM _ _).1 | exact (hM _ _).2) (by first | omega | exact (hM _ _).1 | exact (hM _ _).2) (fun c9 => ?_) (fun c9 => ?_)
    · first | (exfalso; omega) | (cases c9; done) | (exfalso; simp_all; done)
    · refine je_ps jb_X12_leastLit 3 (pc' := 15) (ls' := [_, _, _, _]) (st' := [_, _, _]) rfl ?_
      refine je_cvP' jb_X12_leastLit rfl (pc' := 18) rfl (jh_at (a := 45) rfl) (by rfl) (by first | decide | exact Nat.ble_eq_true_of_le (by omega)) (k_gat g (c := -1 - (v : Int)) (by unfold fC; rw [show fLo 0 = -12 from rfl]; omega)) (st' := [_]) rfl ?_
      rw [show -1 - (v : Int) - fLo 0 = 11 - (v : Int) from by rw [show fLo 0 = -12 from rfl]; omega]
      refine je_ifle jb_X12_leastLit rfl (t := 25) rfl (pc' := 21) rfl (by first | omega | exact (hM _ _).1 | exact (hM _ _).2) (by first | omega | exact (hM _ _).1 | exact (hM _ _).2) (fun c18 => ?_) (fun c18 => ?_)
      · refine je_ps jb_X12_leastLit 2 (pc' := 27) (ls' := [_, _, _, _]) (st' := []) rfl ?_
        refine je_iinc jb_X12_leastLit rfl (pc' := 30) rfl rfl (ls' := [_, _, _, _]) rfl ?_
        refine je_ps jb_X12_leastLit 1 (pc' := 4) (ls' := [_, _, _, _]) (st' := []) rfl ?_
        first | (rw [show lLM L (v + 1) = -1 - (v : Int) from if_pos (by omega)] at kv; exact kv _ _ ⟨_, rfl, rfl, by omega⟩) | (rw [show lLM L (v + 1) = lLM L v from if_neg (by omega)] at kv; exact kv _ _ ⟨_, rfl, rfl, by omega⟩)
      · refine je_ps jb_X12_leastLit 3 (pc' := 27) (ls' := [_, _, _, _]) (st' := []) rfl ?_
        refine je_iinc jb_X12_leastLit rfl (pc' := 30) rfl rfl (ls' := [_, _, _, _]) rfl ?_
        refine je_ps jb_X12_leastLit 1 (pc' := 4) (ls' := [_, _, _, _]) (st' := []) rfl ?_
        first | (rw [show lLM L (v + 1) = -1 - (v : Int) from if_pos (by omega)] at kv; exact kv _ _ ⟨_, rfl, rfl, by omega⟩) | (rw [show lLM L (v + 1) = lLM L v from if_neg (by omega)] at kv; exact kv _ _ ⟨_, rfl, rfl, by omega⟩)
  · obtain ⟨C, rfl, rfl, fv⟩ := gv
    subst fv
    have hb := (lLM_chr (L := L) 12).1
    refine je_ps jb_X12_leastLit 2 (pc' := 6) (ls' := [_, _, _, _]) (st' := [_, _]) rfl ?_
    refine je_get jb_X12_leastLit rfl (pc' := 9) rfl (jh_at (a := 45) rfl) (by rfl) (by rfl) ?_
    refine je_icmplt jb_X12_leastLit rfl (t := 33) rfl (pc' := 12) rfl (by first | omega | exact (hM _ _).1 | exact (hM _ _).2) (by first | omega | exact (hM _ _).1 | exact (hM _ _).2) (by first | omega | exact (hM _ _).1 | exact (hM _ _).2) (by first | omega | exact (hM _ _).1 | exact (hM _ _).2) (fun c9 => ?_) (fun c9 => ?_)
    · refine je_ps jb_X12_leastLit 1 (pc' := 34) (ls' := [_, _, _, _]) (st' := [_]) rfl ?_
      exact je_ret jb_X12_leastLit rfl (by rfl) ⟨rfl, rfl⟩
    · first | (exfalso; omega) | (cases c9; done) | (exfalso; simp_all; done)
theorem k_ggreatestLit {w n k e : Int} {L : Int → Int} (g : gWk m w 0 n k L e) : jq sc 4 jm_X12_greatestLit [.ref 45, .int (jI w)] (jh m r T) (jP (some (.int (jI (fHigh 0 L 0 25)))) (jh m r T)) := by
  have gs := g.1.2
  have hn : n = 25 := by unfold fS at gs; omega
  have bk : 2 ≤ k ∧ k ≤ 5 := gs.2
  have e2 := g.1.1.2.1
  have e3 : m 45 3 = -12 := g.1.1.2.2.1
  rw [← gLM_12]
  refine je_in jb_X12_greatestLit rfl (ls := [_, _, _, _]) rfl ?_
  refine je_ps jb_X12_greatestLit 4 (pc' := 4) (ls' := [_, _, _, _]) (st' := []) rfl ?_
  refine je_loop (fun (v : Nat) ls σ' => ∃ C, ls = [.ref 45, .int (jI w), .int (jI (gLM L v)), .int (jI C)] ∧ σ' = jh m r T ∧ C = 1 + (v : Int)) (12) ⟨_, rfl, rfl, by omega⟩ (fun v hv ls σ' gv kv => ?_) (fun ls σ' gv => ?_)
  · obtain ⟨C, rfl, rfl, fv⟩ := gv
    subst fv
    have hb := (gLM_chr (L := L) v).1
    have hL := g.2.2.2.2.1.1 (13 + (v : Int))
    refine je_ps jb_X12_greatestLit 2 (pc' := 6) (ls' := [_, _, _, _]) (st' := [_, _]) rfl ?_
    refine je_get jb_X12_greatestLit rfl (pc' := 9) rfl (jh_at (a := 45) rfl) (by rfl) (by rfl) ?_
    refine je_ps jb_X12_greatestLit 1 (pc' := 10) (ls' := [_, _, _, _]) (st' := [_, _, _]) rfl ?_
    refine je_get jb_X12_greatestLit rfl (pc' := 13) rfl (jh_at (a := 45) rfl) (by rfl) (by rfl) ?_
    refine je_iadd jb_X12_greatestLit rfl (pc' := 14) rfl ?_
    refine je_icmpge jb_X12_greatestLit rfl (t := 38) rfl (pc' := 17) rfl (by first | omega | exact (hM _ _).1 | exact (hM _ _).2) (by first | omega | exact (hM _ _).1 | exact (hM _ _).2) (by first | omega | exact (hM _ _).1 | exact (hM _ _).2) (by first | omega | exact (hM _ _).1 | exact (hM _ _).2) (fun c14 => ?_) (fun c14 => ?_)
    · first | (exfalso; omega) | (cases c14; done) | (exfalso; simp_all; done)
    · refine je_ps jb_X12_greatestLit 3 (pc' := 20) (ls' := [_, _, _, _]) (st' := [_, _, _]) rfl ?_
      refine je_cvP' jb_X12_greatestLit rfl (pc' := 23) rfl (jh_at (a := 45) rfl) (by rfl) (by first | decide | exact Nat.ble_eq_true_of_le (by omega)) (k_gat g (c := 1 + (v : Int)) (by unfold fC; rw [show fLo 0 = -12 from rfl]; omega)) (st' := [_]) rfl ?_
      rw [show 1 + (v : Int) - fLo 0 = 13 + (v : Int) from by rw [show fLo 0 = -12 from rfl]; omega]
      refine je_ifle jb_X12_greatestLit rfl (t := 30) rfl (pc' := 26) rfl (by first | omega | exact (hM _ _).1 | exact (hM _ _).2) (by first | omega | exact (hM _ _).1 | exact (hM _ _).2) (fun c23 => ?_) (fun c23 => ?_)
      · refine je_ps jb_X12_greatestLit 2 (pc' := 32) (ls' := [_, _, _, _]) (st' := []) rfl ?_
        refine je_iinc jb_X12_greatestLit rfl (pc' := 35) rfl rfl (ls' := [_, _, _, _]) rfl ?_
        refine je_ps jb_X12_greatestLit 1 (pc' := 4) (ls' := [_, _, _, _]) (st' := []) rfl ?_
        first | (rw [show gLM L (v + 1) = 1 + (v : Int) from if_pos (by omega)] at kv; exact kv _ _ ⟨_, rfl, rfl, by omega⟩) | (rw [show gLM L (v + 1) = gLM L v from if_neg (by omega)] at kv; exact kv _ _ ⟨_, rfl, rfl, by omega⟩)
      · refine je_ps jb_X12_greatestLit 3 (pc' := 32) (ls' := [_, _, _, _]) (st' := []) rfl ?_
        refine je_iinc jb_X12_greatestLit rfl (pc' := 35) rfl rfl (ls' := [_, _, _, _]) rfl ?_
        refine je_ps jb_X12_greatestLit 1 (pc' := 4) (ls' := [_, _, _, _]) (st' := []) rfl ?_
        first | (rw [show gLM L (v + 1) = 1 + (v : Int) from if_pos (by omega)] at kv; exact kv _ _ ⟨_, rfl, rfl, by omega⟩) | (rw [show gLM L (v + 1) = gLM L v from if_neg (by omega)] at kv; exact kv _ _ ⟨_, rfl, rfl, by omega⟩)
  · obtain ⟨C, rfl, rfl, fv⟩ := gv
    subst fv
    have hb := (gLM_chr (L := L) 12).1
    refine je_ps jb_X12_greatestLit 2 (pc' := 6) (ls' := [_, _, _, _]) (st' := [_, _]) rfl ?_
    refine je_get jb_X12_greatestLit rfl (pc' := 9) rfl (jh_at (a := 45) rfl) (by rfl) (by rfl) ?_
    refine je_ps jb_X12_greatestLit 1 (pc' := 10) (ls' := [_, _, _, _]) (st' := [_, _, _]) rfl ?_
    refine je_get jb_X12_greatestLit rfl (pc' := 13) rfl (jh_at (a := 45) rfl) (by rfl) (by rfl) ?_
    refine je_iadd jb_X12_greatestLit rfl (pc' := 14) rfl ?_
    refine je_icmpge jb_X12_greatestLit rfl (t := 38) rfl (pc' := 17) rfl (by first | omega | exact (hM _ _).1 | exact (hM _ _).2) (by first | omega | exact (hM _ _).1 | exact (hM _ _).2) (by first | omega | exact (hM _ _).1 | exact (hM _ _).2) (by first | omega | exact (hM _ _).1 | exact (hM _ _).2) (fun c14 => ?_) (fun c14 => ?_)
    · refine je_ps jb_X12_greatestLit 1 (pc' := 39) (ls' := [_, _, _, _]) (st' := [_]) rfl ?_
      exact je_ret jb_X12_greatestLit rfl (by rfl) ⟨rfl, rfl⟩
    · first | (exfalso; omega) | (cases c14; done) | (exfalso; simp_all; done)
theorem xFd_nil (y : Int) : xFd [] y = -9 := by
  unfold xFd
  rw [if_neg (by show ¬ (0 ≤ y ∧ y < 0); omega)]
theorem xB_1 {n k : Int} {L : Int → Int} (hL : fL n k L) (hk : 2 ≤ k ∧ k ≤ 5) : xB (x1 0 n k L) 2 := ⟨wLamp_2 hL hk, by show -12 ≤ (0 : Int) ∧ (0 : Int) ≤ 12; decide, by show -12 ≤ min (0 : Int) 0 ∧ min (0 : Int) 0 ≤ 12; decide, by show -12 ≤ max (0 : Int) 0 ∧ max (0 : Int) 0 ≤ 12; decide⟩
theorem k_gwritesAll {w n k e y : Int} {L : Int → Int} (g : gWk m w 0 n k L e) (hy : -2147483648 ≤ y ∧ y ≤ 2147483647) : jq sc 8 jm_X12_writesAll [.ref 45, .int (jI w), .int (jI y)] (jh m r T) (jP none (jh (gH m (xAllM 0 n k L e) y) r T)) := by
  have gs := g.1.2
  have bk : 2 ≤ k ∧ k ≤ 5 := gs.2
  have hL := g.2.2.2.2.1
  have hn : n = 25 := by unfold fS at gs; omega
  have he : -12 ≤ e ∧ e ≤ 12 := by
    have he : fLo 0 ≤ e ∧ e < fLo 0 + n := g.2.2.2.2.2
    rw [show fLo 0 = -12 from rfl] at he
    omega
  have bl := fLow_0 (s := 0) (L := L) 25 (by omega)
  have bh := fHigh_12 (L := L) gs rfl 25 (by omega)
  have hw := g.2.1
  have B1 := xB_1 hL bk
  have ja := jabs_c (fLow 0 L 0 25 - e)
  have jb' := jabs_c (fHigh 0 L 0 25 - e)
  refine je_in jb_X12_writesAll rfl (ls := [_, _, _, _, _, _, _]) rfl ?_
  refine je_ps jb_X12_writesAll 2 (pc' := 2) (ls' := [_, _, _, _, _, _, _]) (st' := [_, _]) rfl ?_
  refine je_putI jb_X12_writesAll rfl (pc' := 5) rfl (j := 15) (a := 45) rfl (by rfl) (by rfl) (by rfl) (by rfl) ?_
  refine je_ps jb_X12_writesAll 2 (pc' := 7) (ls' := [_, _, _, _, _, _, _]) (st' := [_, _]) rfl ?_
  refine je_putI jb_X12_writesAll rfl (pc' := 10) rfl (j := 16) (a := 45) rfl (by rfl) (by rfl) (by rfl) (by rfl) ?_
  refine je_ps jb_X12_writesAll 2 (pc' := 13) (ls' := [_, _, _, _, _, _, _]) (st' := [_, _]) rfl ?_
  refine je_putI jb_X12_writesAll rfl (pc' := 16) rfl (j := 17) (a := 45) rfl (by rfl) (by rfl) (by rfl) (by rfl) ?_
  refine je_ps jb_X12_writesAll 2 (pc' := 18) (ls' := [_, _, _, _, _, _, _]) (st' := [_, _]) rfl ?_
  refine je_putI jb_X12_writesAll rfl (pc' := 21) rfl (j := 18) (a := 45) rfl (by rfl) (by rfl) (by rfl) (by rfl) ?_
  refine je_ps jb_X12_writesAll 2 (pc' := 23) (ls' := [_, _, _, _, _, _, _]) (st' := [_, _]) rfl ?_
  refine je_putI jb_X12_writesAll rfl (pc' := 26) rfl (j := 19) (a := 45) rfl (by rfl) (by rfl) (by rfl) (by rfl) ?_
  refine je_ps jb_X12_writesAll 2 (pc' := 28) (ls' := [_, _, _, _, _, _, _]) (st' := [_, _]) rfl ?_
  refine je_putI jb_X12_writesAll rfl (pc' := 31) rfl (j := 20) (a := 45) rfl (by rfl) (by rfl) (by rfl) (by rfl) ?_
  refine je_gen (P := fun m' => m' = gH m ([], 0, 0, 0) y) ?_ (fun m1 p1 => ?_)
  · unfold gH
    simp only [jU_jU, jU_same]
    unfold fWx
    rw [xFd_nil]
    rfl
  subst p1
  have ge := (g.h ([], 0, 0, 0) y).2.2.2.1
  refine je_ps jb_X12_writesAll 2 (pc' := 33) (ls' := [_, _, _, _, _, _, _]) (st' := [_, _]) rfl ?_
  refine je_cvP' jb_X12_writesAll rfl (pc' := 36) rfl (jh_at (a := 45) rfl) (by rfl) (by first | decide | exact Nat.ble_eq_true_of_le (by omega)) (k_gleastLit (g.h _ _)) (st' := [_]) rfl ?_
  refine je_ps jb_X12_writesAll 3 (pc' := 39) (ls' := [_, _, _, _, _, _, _]) (st' := [_, _]) rfl ?_
  refine je_cvP' jb_X12_writesAll rfl (pc' := 42) rfl (jh_at (a := 45) rfl) (by rfl) (by first | decide | exact Nat.ble_eq_true_of_le (by omega)) (k_ggreatestLit (g.h _ _)) (st' := [_]) rfl ?_
  refine je_ps jb_X12_writesAll 3 (pc' := 47) (ls' := [_, _, _, _, _, _, _]) (st' := [_, _]) rfl ?_
  refine je_imul jb_X12_writesAll rfl (pc' := 48) rfl ?_
  refine je_ps jb_X12_writesAll 1 (pc' := 50) (ls' := [_, _, _, _, _, _, _]) (st' := [_, _]) rfl ?_
  refine je_iadd jb_X12_writesAll rfl (pc' := 51) rfl ?_
  refine je_ps jb_X12_writesAll 2 (pc' := 54) (ls' := [_, _, _, _, _, _, _]) (st' := [_, _, _]) rfl ?_
  refine je_get jb_X12_writesAll rfl (pc' := 57) rfl (jh_at (a := 45) rfl) (by rfl) (by rfl) ?_
  refine je_ps jb_X12_writesAll 1 (pc' := 58) (ls' := [_, _, _, _, _, _, _]) (st' := [_, _, _, _]) rfl ?_
  refine je_iald jb_X12_writesAll rfl (pc' := 59) rfl (n := 9) (f := _) (jh_at (a := 48) rfl) (by first | omega | exact (hM _ _).1 | exact (hM _ _).2) (by first | omega | exact (hM _ _).1 | exact (hM _ _).2) (by first | omega | exact (hM _ _).1 | exact (hM _ _).2) ?_
  rw [ge]
  refine je_isub jb_X12_writesAll rfl (pc' := 60) rfl ?_
  refine je_abs jb_X12_writesAll rfl (pc' := 63) rfl rfl rfl (by first | omega | exact (hM _ _).1 | exact (hM _ _).2) (by first | omega | exact (hM _ _).1 | exact (hM _ _).2) ?_
  refine je_iadd jb_X12_writesAll rfl (pc' := 64) rfl ?_
  refine je_ps jb_X12_writesAll 3 (pc' := 69) (ls' := [_, _, _, _, _, _, _]) (st' := [_, _]) rfl ?_
  refine je_imul jb_X12_writesAll rfl (pc' := 70) rfl ?_
  refine je_ps jb_X12_writesAll 1 (pc' := 71) (ls' := [_, _, _, _, _, _, _]) (st' := [_, _]) rfl ?_
  refine je_isub jb_X12_writesAll rfl (pc' := 72) rfl ?_
  refine je_ps jb_X12_writesAll 2 (pc' := 74) (ls' := [_, _, _, _, _, _, _]) (st' := [_, _, _]) rfl ?_
  refine je_get jb_X12_writesAll rfl (pc' := 77) rfl (jh_at (a := 45) rfl) (by rfl) (by rfl) ?_
  refine je_ps jb_X12_writesAll 1 (pc' := 78) (ls' := [_, _, _, _, _, _, _]) (st' := [_, _, _, _]) rfl ?_
  refine je_iald jb_X12_writesAll rfl (pc' := 79) rfl (n := 9) (f := _) (jh_at (a := 48) rfl) (by first | omega | exact (hM _ _).1 | exact (hM _ _).2) (by first | omega | exact (hM _ _).1 | exact (hM _ _).2) (by first | omega | exact (hM _ _).1 | exact (hM _ _).2) ?_
  rw [ge]
  refine je_isub jb_X12_writesAll rfl (pc' := 80) rfl ?_
  refine je_abs jb_X12_writesAll rfl (pc' := 83) rfl rfl rfl (by first | omega | exact (hM _ _).1 | exact (hM _ _).2) (by first | omega | exact (hM _ _).1 | exact (hM _ _).2) ?_
  refine je_iadd jb_X12_writesAll rfl (pc' := 84) rfl ?_
  refine je_ps jb_X12_writesAll 3 (pc' := 88) (ls' := [_, _, _, _, _, _, _]) (st' := [_, _]) rfl ?_
  refine je_cvP' jb_X12_writesAll rfl (pc' := 91) rfl (jh_at (a := 45) rfl) (by rfl) (by first | decide | exact Nat.ble_eq_true_of_le (by omega)) (k_gturnsHere g (x := ([], 0, 0, 0)) (by show (0 : Int) ≤ 900; decide) hy (by show -12 ≤ (0 : Int) ∧ (0 : Int) ≤ 12; decide)) (st' := []) rfl ?_
  show je _ _ _ _ _ _ (jh (gH m (x1 0 n k L) y) r T) _
  refine je_ps jb_X12_writesAll 4 (pc' := 97) (ls' := [_, _, _, _, _, _, _]) (st' := [_, _, _, _]) rfl ?_
  refine je_icmpge jb_X12_writesAll rfl (t := 105) rfl (pc' := 100) rfl (by first | omega | exact (hM _ _).1 | exact (hM _ _).2) (by first | omega | exact (hM _ _).1 | exact (hM _ _).2) (by first | omega | exact (hM _ _).1 | exact (hM _ _).2) (by first | omega | exact (hM _ _).1 | exact (hM _ _).2) (fun c97 => ?_) (fun c97 => ?_)
  · refine je_ps jb_X12_writesAll 1 (pc' := 106) (ls' := [_, _, _, _, _, _, _]) (st' := [_, _, _]) rfl ?_
    refine je_cvP' jb_X12_writesAll rfl (pc' := 109) rfl (jh_at (a := 45) rfl) (by rfl) (by first | decide | exact Nat.ble_eq_true_of_le (by omega)) (k_ggoesTo g B1 (by omega) hy (by omega)) (st' := []) rfl ?_
    refine je_ps jb_X12_writesAll 4 (pc' := 115) (ls' := [_, _, _, _, _, _, _]) (st' := [_, _, _, _]) rfl ?_
    refine je_icmpge jb_X12_writesAll rfl (t := 122) rfl (pc' := 118) rfl (by first | omega | exact (hM _ _).1 | exact (hM _ _).2) (by first | omega | exact (hM _ _).1 | exact (hM _ _).2) (by first | omega | exact (hM _ _).1 | exact (hM _ _).2) (by first | omega | exact (hM _ _).1 | exact (hM _ _).2) (fun c115 => ?_) (fun c115 => ?_)
    · refine je_ps jb_X12_writesAll 1 (pc' := 124) (ls' := [_, _, _, _, _, _, _]) (st' := [_, _, _]) rfl ?_
      refine je_cvP' jb_X12_writesAll rfl (pc' := 127) rfl (jh_at (a := 45) rfl) (by rfl) (by first | decide | exact Nat.ble_eq_true_of_le (by omega)) (k_ggoesTo g (xB_go hL bk B1 (by omega)) (by omega) hy (by omega)) (st' := []) rfl ?_
      refine je_ps jb_X12_writesAll 3 (pc' := 130) (ls' := [_, _, _, _, _, _, _]) (st' := [_, _, _]) rfl ?_
      refine je_get jb_X12_writesAll rfl (pc' := 133) rfl (jh_at (a := 45) rfl) (by rfl) (by rfl) ?_
      refine je_ps jb_X12_writesAll 1 (pc' := 134) (ls' := [_, _, _, _, _, _, _]) (st' := [_, _, _, _]) rfl ?_
      refine je_iald jb_X12_writesAll rfl (pc' := 135) rfl (n := 9) (f := _) (jh_at (a := 48) rfl) (by first | omega | exact (hM _ _).1 | exact (hM _ _).2) (by first | omega | exact (hM _ _).1 | exact (hM _ _).2) (by first | omega | exact (hM _ _).1 | exact (hM _ _).2) ?_
      rw [(g.h _ _).2.2.2.1]
      refine je_cvP' jb_X12_writesAll rfl (pc' := 138) rfl (jh_at (a := 45) rfl) (by rfl) (by first | decide | exact Nat.ble_eq_true_of_le (by omega)) (k_ggoesTo g (xB_go hL bk (xB_go hL bk B1 (by omega)) (by omega)) (by omega) hy (by omega)) (st' := []) rfl ?_
      first | (exfalso; omega) | (refine je_ret jb_X12_writesAll rfl (by rfl) ⟨rfl, jh_eq ?_⟩; unfold xAllM; rw [if_pos (by omega)]; done) | (refine je_ret jb_X12_writesAll rfl (by rfl) ⟨rfl, jh_eq ?_⟩; unfold xAllM; rw [if_neg (by omega)]; done)
    · refine je_ps jb_X12_writesAll 2 (pc' := 124) (ls' := [_, _, _, _, _, _, _]) (st' := [_, _, _]) rfl ?_
      refine je_cvP' jb_X12_writesAll rfl (pc' := 127) rfl (jh_at (a := 45) rfl) (by rfl) (by first | decide | exact Nat.ble_eq_true_of_le (by omega)) (k_ggoesTo g (xB_go hL bk B1 (by omega)) (by omega) hy (by omega)) (st' := []) rfl ?_
      refine je_ps jb_X12_writesAll 3 (pc' := 130) (ls' := [_, _, _, _, _, _, _]) (st' := [_, _, _]) rfl ?_
      refine je_get jb_X12_writesAll rfl (pc' := 133) rfl (jh_at (a := 45) rfl) (by rfl) (by rfl) ?_
      refine je_ps jb_X12_writesAll 1 (pc' := 134) (ls' := [_, _, _, _, _, _, _]) (st' := [_, _, _, _]) rfl ?_
      refine je_iald jb_X12_writesAll rfl (pc' := 135) rfl (n := 9) (f := _) (jh_at (a := 48) rfl) (by first | omega | exact (hM _ _).1 | exact (hM _ _).2) (by first | omega | exact (hM _ _).1 | exact (hM _ _).2) (by first | omega | exact (hM _ _).1 | exact (hM _ _).2) ?_
      rw [(g.h _ _).2.2.2.1]
      refine je_cvP' jb_X12_writesAll rfl (pc' := 138) rfl (jh_at (a := 45) rfl) (by rfl) (by first | decide | exact Nat.ble_eq_true_of_le (by omega)) (k_ggoesTo g (xB_go hL bk (xB_go hL bk B1 (by omega)) (by omega)) (by omega) hy (by omega)) (st' := []) rfl ?_
      first | (exfalso; omega) | (refine je_ret jb_X12_writesAll rfl (by rfl) ⟨rfl, jh_eq ?_⟩; unfold xAllM; rw [if_pos (by omega)]; done) | (refine je_ret jb_X12_writesAll rfl (by rfl) ⟨rfl, jh_eq ?_⟩; unfold xAllM; rw [if_neg (by omega)]; done)
  · refine je_ps jb_X12_writesAll 2 (pc' := 106) (ls' := [_, _, _, _, _, _, _]) (st' := [_, _, _]) rfl ?_
    refine je_cvP' jb_X12_writesAll rfl (pc' := 109) rfl (jh_at (a := 45) rfl) (by rfl) (by first | decide | exact Nat.ble_eq_true_of_le (by omega)) (k_ggoesTo g B1 (by omega) hy (by omega)) (st' := []) rfl ?_
    refine je_ps jb_X12_writesAll 4 (pc' := 115) (ls' := [_, _, _, _, _, _, _]) (st' := [_, _, _, _]) rfl ?_
    refine je_icmpge jb_X12_writesAll rfl (t := 122) rfl (pc' := 118) rfl (by first | omega | exact (hM _ _).1 | exact (hM _ _).2) (by first | omega | exact (hM _ _).1 | exact (hM _ _).2) (by first | omega | exact (hM _ _).1 | exact (hM _ _).2) (by first | omega | exact (hM _ _).1 | exact (hM _ _).2) (fun c115 => ?_) (fun c115 => ?_)
    · refine je_ps jb_X12_writesAll 1 (pc' := 124) (ls' := [_, _, _, _, _, _, _]) (st' := [_, _, _]) rfl ?_
      refine je_cvP' jb_X12_writesAll rfl (pc' := 127) rfl (jh_at (a := 45) rfl) (by rfl) (by first | decide | exact Nat.ble_eq_true_of_le (by omega)) (k_ggoesTo g (xB_go hL bk B1 (by omega)) (by omega) hy (by omega)) (st' := []) rfl ?_
      refine je_ps jb_X12_writesAll 3 (pc' := 130) (ls' := [_, _, _, _, _, _, _]) (st' := [_, _, _]) rfl ?_
      refine je_get jb_X12_writesAll rfl (pc' := 133) rfl (jh_at (a := 45) rfl) (by rfl) (by rfl) ?_
      refine je_ps jb_X12_writesAll 1 (pc' := 134) (ls' := [_, _, _, _, _, _, _]) (st' := [_, _, _, _]) rfl ?_
      refine je_iald jb_X12_writesAll rfl (pc' := 135) rfl (n := 9) (f := _) (jh_at (a := 48) rfl) (by first | omega | exact (hM _ _).1 | exact (hM _ _).2) (by first | omega | exact (hM _ _).1 | exact (hM _ _).2) (by first | omega | exact (hM _ _).1 | exact (hM _ _).2) ?_
      rw [(g.h _ _).2.2.2.1]
      refine je_cvP' jb_X12_writesAll rfl (pc' := 138) rfl (jh_at (a := 45) rfl) (by rfl) (by first | decide | exact Nat.ble_eq_true_of_le (by omega)) (k_ggoesTo g (xB_go hL bk (xB_go hL bk B1 (by omega)) (by omega)) (by omega) hy (by omega)) (st' := []) rfl ?_
      first | (exfalso; omega) | (refine je_ret jb_X12_writesAll rfl (by rfl) ⟨rfl, jh_eq ?_⟩; unfold xAllM; rw [if_pos (by omega)]; done) | (refine je_ret jb_X12_writesAll rfl (by rfl) ⟨rfl, jh_eq ?_⟩; unfold xAllM; rw [if_neg (by omega)]; done)
    · refine je_ps jb_X12_writesAll 2 (pc' := 124) (ls' := [_, _, _, _, _, _, _]) (st' := [_, _, _]) rfl ?_
      refine je_cvP' jb_X12_writesAll rfl (pc' := 127) rfl (jh_at (a := 45) rfl) (by rfl) (by first | decide | exact Nat.ble_eq_true_of_le (by omega)) (k_ggoesTo g (xB_go hL bk B1 (by omega)) (by omega) hy (by omega)) (st' := []) rfl ?_
      refine je_ps jb_X12_writesAll 3 (pc' := 130) (ls' := [_, _, _, _, _, _, _]) (st' := [_, _, _]) rfl ?_
      refine je_get jb_X12_writesAll rfl (pc' := 133) rfl (jh_at (a := 45) rfl) (by rfl) (by rfl) ?_
      refine je_ps jb_X12_writesAll 1 (pc' := 134) (ls' := [_, _, _, _, _, _, _]) (st' := [_, _, _, _]) rfl ?_
      refine je_iald jb_X12_writesAll rfl (pc' := 135) rfl (n := 9) (f := _) (jh_at (a := 48) rfl) (by first | omega | exact (hM _ _).1 | exact (hM _ _).2) (by first | omega | exact (hM _ _).1 | exact (hM _ _).2) (by first | omega | exact (hM _ _).1 | exact (hM _ _).2) ?_
      rw [(g.h _ _).2.2.2.1]
      refine je_cvP' jb_X12_writesAll rfl (pc' := 138) rfl (jh_at (a := 45) rfl) (by rfl) (by first | decide | exact Nat.ble_eq_true_of_le (by omega)) (k_ggoesTo g (xB_go hL bk (xB_go hL bk B1 (by omega)) (by omega)) (by omega) hy (by omega)) (st' := []) rfl ?_
      first | (exfalso; omega) | (refine je_ret jb_X12_writesAll rfl (by rfl) ⟨rfl, jh_eq ?_⟩; unfold xAllM; rw [if_pos (by omega)]; done) | (refine je_ret jb_X12_writesAll rfl (by rfl) ⟨rfl, jh_eq ?_⟩; unfold xAllM; rw [if_neg (by omega)]; done)
theorem xFd_V {l : List Int} {y : Int} (h : -1 ≤ y) : (y = -1 → aWrV l y = (l.length : Int)) ∧ (y ≠ -1 → aWrV l y = xFd l y) := by
  unfold aWrV xFd
  exact ⟨fun h => if_pos h, fun h => if_neg h⟩
theorem gl_written {A : aT} (O : aOk A) (J : iG A m) {x y : Int} (hx : -2147483648 ≤ x ∧ x ≤ 2147483647) (hy : -2147483648 ≤ y ∧ y ≤ 2147483647) : jq sc 14 jm_X12_written [.ref 45, .int (jI x), .int (jI y)] (jh m r T) (gQ (aWritten A x y) m r T) := by
  have c6 := O.c6
  have fs := O.fs
  have jc := J.c
  have e1 := J.st.1.1
  have s1 := fs
  unfold fS at s1
  refine je_in jb_X12_written rfl (ls := [_, _, _]) rfl ?_
  refine je_ps jb_X12_written 2 (pc' := 2) (ls' := [_, _, _]) (st' := [_, _]) rfl ?_
  refine je_cvP' jb_X12_written rfl (pc' := 5) rfl (jh_at (a := 45) rfl) (by rfl) (by first | decide | exact Nat.ble_eq_true_of_le (by omega)) (k_gisWalk J.c (by omega) hx) (st' := [_]) rfl ?_
  refine je_ifneb jb_X12_written rfl (t := 14) rfl (pc' := 8) rfl (fun c5 => ?_) (fun c5 => ?_)
  · have hu := of_decide_eq_true c5
    have gu := J.wk O hu
    have ou := O.wo (i := x.toNat) (by omega)
    refine je_ps jb_X12_written 2 (pc' := 16) (ls' := [_, _, _]) (st' := [_, _]) rfl ?_
    refine je_icmpge jb_X12_written rfl (t := 26) rfl (pc' := 19) rfl (by first | omega | exact (hM _ _).1 | exact (hM _ _).2) (by first | omega | exact (hM _ _).1 | exact (hM _ _).2) (by first | omega | exact (hM _ _).1 | exact (hM _ _).2) (by first | omega | exact (hM _ _).1 | exact (hM _ _).2) (fun c16 => ?_) (fun c16 => ?_)
    · refine je_ps jb_X12_written 1 (pc' := 27) (ls' := [_, _, _]) (st' := [_]) rfl ?_
      refine je_get jb_X12_written rfl (pc' := 30) rfl (jh_at (a := 45) rfl) (by rfl) (by rfl) ?_
      refine je_ifeq jb_X12_written rfl (t := 40) rfl (pc' := 33) rfl (by first | omega | exact (hM _ _).1 | exact (hM _ _).2) (by first | omega | exact (hM _ _).1 | exact (hM _ _).2) (fun c30 => ?_) (fun c30 => ?_)
      · have h0 : aS A = 0 := by rw [← e1]; exact c30
        have gu0 := gu
        rw [h0] at gu0
        have ex : xAll (aS A) (aN A) (aK A) (aW A x.toNat).1 (aW A x.toNat).2 = xAllM 0 (aN A) (aK A) (aW A x.toNat).1 (aW A x.toNat).2 := by rw [xAll_M fs h0, h0]
        refine je_ps jb_X12_written 3 (pc' := 43) (ls' := [_, _, _]) (st' := [_, _, _]) rfl ?_
        refine je_cvP' jb_X12_written rfl (pc' := 46) rfl (jh_at (a := 45) rfl) (by rfl) (by first | decide | exact Nat.ble_eq_true_of_le (by omega)) (k_gwritesAll gu0 hy) (st' := []) rfl ?_
        obtain ⟨f1, f2, f3, f4, f5, f6⟩ := gH_f m (xAllM 0 (aN A) (aK A) (aW A x.toNat).1 (aW A x.toNat).2) y
        have fv := xFd_V (l := (xAllM 0 (aN A) (aK A) (aW A x.toNat).1 (aW A x.toNat).2).1) (y := y) (by omega)
        refine je_ps jb_X12_written 2 (pc' := 48) (ls' := [_, _, _]) (st' := [_, _]) rfl ?_
        refine je_icmpne jb_X12_written rfl (t := 58) rfl (pc' := 51) rfl (by first | omega | exact (hM _ _).1 | exact (hM _ _).2) (by first | omega | exact (hM _ _).1 | exact (hM _ _).2) (by first | omega | exact (hM _ _).1 | exact (hM _ _).2) (by first | omega | exact (hM _ _).1 | exact (hM _ _).2) (fun c48 => ?_) (fun c48 => ?_)
        · refine je_ps jb_X12_written 1 (pc' := 59) (ls' := [_, _, _]) (st' := [_]) rfl ?_
          refine je_get jb_X12_written rfl (pc' := 62) rfl (jh_at (a := 45) rfl) (by rfl) (by rfl) ?_
          skip
          rw [show aWritten A x y = (aWrV (xAllM 0 (aN A) (aK A) (aW A x.toNat).1 (aW A x.toNat).2).1 y, A) from by unfold aWritten; rw [if_pos hu, if_neg (by omega), if_pos h0, ex]]
          first | exact je_ret jb_X12_written rfl (by rfl) ⟨_, by rw [fv.1 (by omega)], rfl, J.z O.c6 (gZ_h _ _ _), (kC.rfl' m).u (by decide) _⟩ | exact je_ret jb_X12_written rfl (by rfl) ⟨_, by rw [fv.2 (by omega), f3], rfl, J.z O.c6 (gZ_h _ _ _), (kC.rfl' m).u (by decide) _⟩
        · refine je_ps jb_X12_written 1 (pc' := 52) (ls' := [_, _, _]) (st' := [_]) rfl ?_
          refine je_get jb_X12_written rfl (pc' := 55) rfl (jh_at (a := 45) rfl) (by rfl) (by rfl) ?_
          rw [f1]
          refine je_ps jb_X12_written 1 (pc' := 62) (ls' := [_, _, _]) (st' := [_]) rfl ?_
          skip
          rw [show aWritten A x y = (aWrV (xAllM 0 (aN A) (aK A) (aW A x.toNat).1 (aW A x.toNat).2).1 y, A) from by unfold aWritten; rw [if_pos hu, if_neg (by omega), if_pos h0, ex]]
          first | exact je_ret jb_X12_written rfl (by rfl) ⟨_, by rw [fv.1 (by omega)], rfl, J.z O.c6 (gZ_h _ _ _), (kC.rfl' m).u (by decide) _⟩ | exact je_ret jb_X12_written rfl (by rfl) ⟨_, by rw [fv.2 (by omega), f3], rfl, J.z O.c6 (gZ_h _ _ _), (kC.rfl' m).u (by decide) _⟩
      · refine je_ps jb_X12_written 2 (pc' := 36) (ls' := [_, _, _]) (st' := [_, _]) rfl ?_
        refine je_cvP' jb_X12_written rfl (pc' := 39) rfl (jh_at (a := 45) rfl) (by rfl) (by first | decide | exact Nat.ble_eq_true_of_le (by omega)) (c_X12_refused (by omega)) (st' := [_]) rfl ?_
        rw [show aWritten A x y = aRef A (-3) from by unfold aWritten; rw [if_pos hu, if_neg (by omega), if_neg (by omega)]]
        exact je_ret jb_X12_written rfl (by rfl) ⟨_, rfl, rfl, J.ref (by omega), (kC.rfl' m).u (by decide) _⟩
    · refine je_ps jb_X12_written 2 (pc' := 22) (ls' := [_, _, _]) (st' := [_, _]) rfl ?_
      refine je_cvP' jb_X12_written rfl (pc' := 25) rfl (jh_at (a := 45) rfl) (by rfl) (by first | decide | exact Nat.ble_eq_true_of_le (by omega)) (c_X12_refused (by omega)) (st' := [_]) rfl ?_
      rw [show aWritten A x y = aRef A (-4) from by unfold aWritten; rw [if_pos hu, if_pos (by omega)]]
      exact je_ret jb_X12_written rfl (by rfl) ⟨_, rfl, rfl, J.ref (by omega), (kC.rfl' m).u (by decide) _⟩
  · refine je_ps jb_X12_written 2 (pc' := 10) (ls' := [_, _, _]) (st' := [_, _]) rfl ?_
    refine je_cvP' jb_X12_written rfl (pc' := 13) rfl (jh_at (a := 45) rfl) (by rfl) (by first | decide | exact Nat.ble_eq_true_of_le (by omega)) (c_X12_refused (by omega)) (st' := [_]) rfl ?_
    rw [show aWritten A x y = aRef A (-1) from by unfold aWritten; rw [if_neg (of_decide_eq_false c5)]]
    exact je_ret jb_X12_written rfl (by rfl) ⟨_, rfl, rfl, J.ref (by omega), (kC.rfl' m).u (by decide) _⟩
end C78
