/-! CALLS of the other side: words written -/
section C76
variable {sc : Nat × (Nat → Int32)} {m : Nat → Int → Int} {r : Nat → Nat → Value} {T : jx_H} {σ : jx_H}
def xFd (l : List Int) (y : Int) : Int := if 0 ≤ y ∧ y < (l.length : Int) then fSg (l.getD y.toNat 0) else -9
/-- what the other side's fields tell of a word under way -/
def fWx (f : Int → Int) (x : xT) (y : Int) : Int → Int := ju (ju (ju (ju (ju (ju f 15 (x.1.length : Int)) 16 y) 17 (xFd x.1 y)) 18 x.2.1) 19 x.2.2.1) 20 x.2.2.2
def gH (m : Nat → Int → Int) (x : xT) (y : Int) : Nat → Int → Int := jU m 45 (fWx (m 45) x y)
theorem fWx_c (f : Int → Int) (x : xT) (y j : Int) : fWx f x y j = if j = 20 then x.2.2.2 else if j = 19 then x.2.2.1 else if j = 18 then x.2.1 else if j = 17 then xFd x.1 y else if j = 16 then y else if j = 15 then (x.1.length : Int) else f j := rfl
theorem gH_ne (m : Nat → Int → Int) (x : xT) (y : Int) {b : Nat} (h : b ≠ 45) : gH m x y b = m b := jU_ne h
theorem gH_j (m : Nat → Int → Int) (x : xT) (y : Int) {j : Int} (h : ¬ (15 ≤ j ∧ j ≤ 20)) : gH m x y 45 j = m 45 j := by
  unfold gH
  rw [jU_same, fWx_c, if_neg (by omega), if_neg (by omega), if_neg (by omega), if_neg (by omega), if_neg (by omega), if_neg (by omega)]
theorem gH_f (m : Nat → Int → Int) (x : xT) (y : Int) : gH m x y 45 15 = (x.1.length : Int) ∧ gH m x y 45 16 = y ∧ gH m x y 45 17 = xFd x.1 y ∧ gH m x y 45 18 = x.2.1 ∧ gH m x y 45 19 = x.2.2.1 ∧ gH m x y 45 20 = x.2.2.2 := by
  unfold gH
  rw [jU_same]
  exact ⟨rfl, rfl, rfl, rfl, rfl, rfl⟩
theorem gWk.h {w s n k e : Int} {L : Int → Int} (g : gWk m w s n k L e) (x : xT) (y : Int) : gWk (gH m x y) w s n k L e := by
  obtain ⟨⟨g1, g2⟩, g3, g4, g5, g6⟩ := g
  refine ⟨⟨?_, g2⟩, g3, ?_, ?_, g6⟩
  · rw [gH_j _ _ _ (by decide), gH_j _ _ _ (by decide), gH_j _ _ _ (by decide), gH_j _ _ _ (by decide)]; exact g1
  · rw [gH_ne _ _ _ (by decide)]; exact g4
  · rw [gH_ne _ _ _ (by decide)]; exact g5
theorem gZ_h (m : Nat → Int → Int) (x : xT) (y : Int) : gZ m (gH m x y) := ⟨fun b q1 _ _ _ _ _ _ => gH_ne _ _ _ q1, fun j h => gH_j _ _ _ h, fun w p _ _ _ => by rw [gH_ne _ _ _ (by decide)], fun w _ => by rw [gH_ne _ _ _ (by decide)]⟩
theorem xFd_s (l : List Int) (c y : Int) : xFd (l ++ [c]) y = if (l.length : Int) = y then fSg c else xFd l y := by
  unfold xFd
  rw [List.length_append, List.length_singleton]
  by_cases h : (l.length : Int) = y
  · rw [if_pos h, if_pos (by omega), List.getD_eq_getElem?_getD, List.getElem?_append_right (by omega), show y.toNat - l.length = 0 by omega]
    rfl
  · rw [if_neg h]
    by_cases h2 : 0 ≤ y ∧ y < (l.length : Int)
    · rw [if_pos (by omega), if_pos h2, List.getD_eq_getElem?_getD, List.getD_eq_getElem?_getD, List.getElem?_append_left (by omega)]
    · rw [if_neg (by omega), if_neg h2]
theorem fWx_17 {f : Int → Int} {x : xT} {y a b c : Int} (hb : b = (x.1.length : Int) + 1) (ha : a = xFd (x.1 ++ [c]) y) : ju (ju (fWx f x y) 17 a) 15 b = fWx f (x.1 ++ [c], x.2) y := by
  funext j
  show (if j = 15 then b else if j = 17 then a else fWx f x y j) = _
  rw [fWx_c, fWx_c, List.length_append, List.length_singleton, ← ha]
  by_cases h1 : j = 15
  · rw [if_pos h1, if_neg (by omega), if_neg (by omega), if_neg (by omega), if_neg (by omega), if_neg (by omega), if_pos h1, hb]
    rfl
  · by_cases h2 : j = 17
    · rw [if_neg h1, if_pos h2, if_neg (by omega), if_neg (by omega), if_neg (by omega), if_pos h2]
    · rw [if_neg h1, if_neg h2]
      simp only [if_neg h1, if_neg h2]
theorem fWx_18 (f : Int → Int) (x : xT) (y a : Int) : ju (fWx f x y) 18 a = fWx f (x.1, a, x.2.2) y := by
  funext j
  show (if j = 18 then a else fWx f x y j) = _
  rw [fWx_c, fWx_c]
  by_cases h : j = 18
  · rw [if_pos h, if_neg (by omega), if_neg (by omega), if_pos h]
  · simp only [if_neg h]
theorem fWx_1920 (f : Int → Int) (x : xT) (y a b : Int) : ju (ju (fWx f x y) 19 a) 20 b = fWx f (x.1, x.2.1, a, b) y := by
  funext j
  show (if j = 20 then b else if j = 19 then a else fWx f x y j) = _
  rw [fWx_c, fWx_c]
  by_cases h : j = 20
  · rw [if_pos h, if_pos h]
  · by_cases h2 : j = 19
    · rw [if_neg h, if_pos h2, if_neg h, if_pos h2]
    · simp only [if_neg h, if_neg h2]
theorem k_gwrites {x : xT} {y a c : Int} (hl : (x.1.length : Int) ≤ 1000) (hy : -2147483648 ≤ y ∧ y ≤ 2147483647) (ha : a = fSg c) : jq sc 2 jm_X12_writes [.ref 45, .int (jI a)] (jh (gH m x y) r T) (jP none (jh (gH m (x.1 ++ [c], x.2) y) r T)) := by
  obtain ⟨e1, e2, e3, e4, e5, e6⟩ := gH_f m x y
  have fin : ∀ v : Int, v = xFd (x.1 ++ [c]) y → jU (jU (gH m x y) 45 (ju (gH m x y 45) 17 v)) 45 (ju (jU (gH m x y) 45 (ju (gH m x y 45) 17 v) 45) 15 (jU (gH m x y) 45 (ju (gH m x y 45) 17 v) 45 15 + 1)) = gH m (x.1 ++ [c], x.2) y := by
    intro v hv
    unfold gH
    simp only [jU_same, jU_jU]
    exact congrArg (jU m 45) (fWx_17 (by rw [ju_ne (by decide)]; rfl) hv)
  refine je_in jb_X12_writes rfl (ls := [_, _]) rfl ?_
  refine je_ps jb_X12_writes 2 (pc' := 2) (ls' := [_, _]) (st' := [_, _]) rfl ?_
  refine je_get jb_X12_writes rfl (pc' := 5) rfl (jh_at (a := 45) rfl) (by rfl) (by rfl) ?_
  refine je_ps jb_X12_writes 1 (pc' := 6) (ls' := [_, _]) (st' := [_, _, _]) rfl ?_
  refine je_get jb_X12_writes rfl (pc' := 9) rfl (jh_at (a := 45) rfl) (by rfl) (by rfl) ?_
  refine je_icmpne jb_X12_writes rfl (t := 16) rfl (pc' := 12) rfl (by first | omega | exact (hM _ _).1 | exact (hM _ _).2) (by first | omega | exact (hM _ _).1 | exact (hM _ _).2) (by first | omega | exact (hM _ _).1 | exact (hM _ _).2) (by first | omega | exact (hM _ _).1 | exact (hM _ _).2) (fun c9 => ?_) (fun c9 => ?_)
  · refine je_ps jb_X12_writes 1 (pc' := 17) (ls' := [_, _]) (st' := [_, _]) rfl ?_
    refine je_get jb_X12_writes rfl (pc' := 20) rfl (jh_at (a := 45) rfl) (by rfl) (by rfl) ?_
    refine je_putI jb_X12_writes rfl (pc' := 23) rfl (j := 17) (a := 45) rfl (by rfl) (by rfl) (by rfl) (by rfl) ?_
    refine je_ps jb_X12_writes 2 (pc' := 25) (ls' := [_, _]) (st' := [_, _]) rfl ?_
    refine je_get jb_X12_writes rfl (pc' := 28) rfl (jh_at (a := 45) rfl) (by rfl) (by rfl) ?_
    refine je_ps jb_X12_writes 1 (pc' := 29) (ls' := [_, _]) (st' := [_, _, _]) rfl ?_
    refine je_iadd jb_X12_writes rfl (pc' := 30) rfl ?_
    refine je_putI jb_X12_writes rfl (pc' := 33) rfl (j := 15) (a := 45) rfl (by rfl) (by rfl) (by rfl) (by rfl) ?_
    refine je_ret jb_X12_writes rfl (by rfl) ⟨rfl, jh_eq (fin _ ?_)⟩
    rw [xFd_s]
    first | (rw [if_pos (by omega)]; exact ha) | (rw [if_neg (by omega)]; exact e3)
  · refine je_ps jb_X12_writes 2 (pc' := 20) (ls' := [_, _]) (st' := [_, _]) rfl ?_
    refine je_putI jb_X12_writes rfl (pc' := 23) rfl (j := 17) (a := 45) rfl (by rfl) (by rfl) (by rfl) (by rfl) ?_
    refine je_ps jb_X12_writes 2 (pc' := 25) (ls' := [_, _]) (st' := [_, _]) rfl ?_
    refine je_get jb_X12_writes rfl (pc' := 28) rfl (jh_at (a := 45) rfl) (by rfl) (by rfl) ?_
    refine je_ps jb_X12_writes 1 (pc' := 29) (ls' := [_, _]) (st' := [_, _, _]) rfl ?_
    refine je_iadd jb_X12_writes rfl (pc' := 30) rfl ?_
    refine je_putI jb_X12_writes rfl (pc' := 33) rfl (j := 15) (a := 45) rfl (by rfl) (by rfl) (by rfl) (by rfl) ?_
    refine je_ret jb_X12_writes rfl (by rfl) ⟨rfl, jh_eq (fin _ ?_)⟩
    rw [xFd_s]
    first | (rw [if_pos (by omega)]; exact ha) | (rw [if_neg (by omega)]; exact e3)
def xB (x : xT) (c : Int) : Prop := (x.1.length : Int) ≤ c ∧ (-12 ≤ x.2.1 ∧ x.2.1 ≤ 12) ∧ (-12 ≤ x.2.2.1 ∧ x.2.2.1 ≤ 12) ∧ -12 ≤ x.2.2.2 ∧ x.2.2.2 ≤ 12
theorem k_gturnsHere {w n k e y : Int} {L : Int → Int} {x : xT} (g : gWk m w 0 n k L e) (hl : (x.1.length : Int) ≤ 900) (hy : -2147483648 ≤ y ∧ y ≤ 2147483647) (hx : -12 ≤ x.2.1 ∧ x.2.1 ≤ 12) : jq sc 4 jm_X12_turnsHere [.ref 45, .int (jI w)] (jh (gH m x y) r T) (jP none (jh (gH m (x.1 ++ wLamp 0 n k L x.2.1, x.2) y) r T)) := by
  have gs := g.1.2
  have hn : n = 25 := by unfold fS at gs; omega
  have bk : 2 ≤ k ∧ k ≤ 5 := gs.2
  have gx := g.h x y
  obtain ⟨e1, e2, e3, e4, e5, e6⟩ := gH_f m x y
  have ek := gx.1.1.2.2.2
  have hc : fC 0 n x.2.1 := by
    unfold fC
    rw [show fLo 0 = -12 from rfl]
    omega
  have es := fSh_at (L := L) hc (by omega)
  have bs := fSh_i (s := 0) (n := n) g.2.2.2.2.1 (by omega) x.2.1
  obtain ⟨b, hb⟩ : ∃ b : Int, (fSh 0 n L x.2.1 ≤ k - fSh 0 n L x.2.1 ∧ b = 0) ∨ (k - fSh 0 n L x.2.1 < fSh 0 n L x.2.1 ∧ b = 1) := by
    by_cases q : fSh 0 n L x.2.1 ≤ k - fSh 0 n L x.2.1
    · exact ⟨0, Or.inl ⟨q, rfl⟩⟩
    · exact ⟨1, Or.inr ⟨by omega, rfl⟩⟩
  have ew : wLamp 0 n k L x.2.1 = List.replicate (min (fSh 0 n L x.2.1) (k - fSh 0 n L x.2.1)).toNat b := by
    unfold wLamp
    rcases hb with h | h
    · rw [if_pos h.1, h.2]
    · rw [if_neg (by omega), h.2]
  have hsg := fSg_c b
  rw [ew]
  refine je_in jb_X12_turnsHere rfl (ls := [_, _, _, _, _]) rfl ?_
  refine je_ps jb_X12_turnsHere 3 (pc' := 3) (ls' := [_, _, _, _, _]) (st' := [_, _, _]) rfl ?_
  refine je_get jb_X12_turnsHere rfl (pc' := 6) rfl (jh_at (a := 45) rfl) (by rfl) (by rfl) ?_
  rw [e4]
  refine je_cvP' jb_X12_turnsHere rfl (pc' := 9) rfl (jh_at (a := 45) rfl) (by rfl) (by first | decide | exact Nat.ble_eq_true_of_le (by omega)) (k_gat gx hc) (st' := [_]) rfl ?_
  rw [← es]
  refine je_ps jb_X12_turnsHere 3 (pc' := 12) (ls' := [_, _, _, _, _]) (st' := [_, _]) rfl ?_
  refine je_get jb_X12_turnsHere rfl (pc' := 15) rfl (jh_at (a := 45) rfl) (by rfl) (by rfl) ?_
  rw [ek]
  refine je_ps jb_X12_turnsHere 1 (pc' := 16) (ls' := [_, _, _, _, _]) (st' := [_, _, _]) rfl ?_
  refine je_isub jb_X12_turnsHere rfl (pc' := 17) rfl ?_
  refine je_icmpgt jb_X12_turnsHere rfl (t := 24) rfl (pc' := 20) rfl (by first | omega | exact (hM _ _).1 | exact (hM _ _).2) (by first | omega | exact (hM _ _).1 | exact (hM _ _).2) (by first | omega | exact (hM _ _).1 | exact (hM _ _).2) (by first | omega | exact (hM _ _).1 | exact (hM _ _).2) (fun c17 => ?_) (fun c17 => ?_)
  · refine je_ps jb_X12_turnsHere 3 (pc' := 27) (ls' := [_, _, _, _, _]) (st' := [_]) rfl ?_
    refine je_ifeq jb_X12_turnsHere rfl (t := 34) rfl (pc' := 30) rfl (by first | omega | exact (hM _ _).1 | exact (hM _ _).2) (by first | omega | exact (hM _ _).1 | exact (hM _ _).2) (fun c27 => ?_) (fun c27 => ?_)
    · refine je_ps jb_X12_turnsHere 1 (pc' := 35) (ls' := [_, _, _, _, _]) (st' := [_]) rfl ?_
      refine je_get jb_X12_turnsHere rfl (pc' := 38) rfl (jh_at (a := 45) rfl) (by rfl) (by rfl) ?_
      rw [ek]
      refine je_ps jb_X12_turnsHere 1 (pc' := 39) (ls' := [_, _, _, _, _]) (st' := [_, _]) rfl ?_
      refine je_isub jb_X12_turnsHere rfl (pc' := 40) rfl ?_
      refine je_ps jb_X12_turnsHere 1 (pc' := 42) (ls' := [_, _, _, _, _]) (st' := []) rfl ?_
      refine je_loop (fun (v : Nat) ls σ' => ∃ fl C, ls = [.ref 45, .int (jI w), .int (jI (fSh 0 n L x.2.1)), .int (jI fl), .int (jI C)] ∧ σ' = jh (gH m (x.1 ++ List.replicate v b, x.2) y) r T ∧ ((fl = 1 ∧ b = 0) ∨ (fl = 0 ∧ b = 1)) ∧ C = min (fSh 0 n L x.2.1) (k - fSh 0 n L x.2.1) - (v : Int)) ((min (fSh 0 n L x.2.1) (k - fSh 0 n L x.2.1)).toNat) ⟨_, _, rfl, jh_eq (by rw [show List.replicate 0 b = ([] : List Int) from rfl, List.append_nil]), by omega, by omega⟩ (fun v hv ls σ' gv kv => ?_) (fun ls σ' gv => ?_)
      · obtain ⟨fl, C, rfl, rfl, ⟨f1, f2⟩⟩ := gv
        have bl : (((x.1 ++ List.replicate v b, x.2) : xT).1.length : Int) ≤ 1000 := by (show ((x.1 ++ List.replicate v b).length : Int) ≤ 1000); (rw [List.length_append, List.length_replicate]; omega)
        refine je_ps jb_X12_turnsHere 1 (pc' := 44) (ls' := [_, _, _, _, _]) (st' := [_]) rfl ?_
        refine je_ifle jb_X12_turnsHere rfl (t := 68) rfl (pc' := 47) rfl (by first | omega | exact (hM _ _).1 | exact (hM _ _).2) (by first | omega | exact (hM _ _).1 | exact (hM _ _).2) (fun c44 => ?_) (fun c44 => ?_)
        · first | (exfalso; omega) | (cases c44; done) | (exfalso; simp_all; done)
        · refine je_ps jb_X12_turnsHere 2 (pc' := 49) (ls' := [_, _, _, _, _]) (st' := [_, _]) rfl ?_
          refine je_ifeq jb_X12_turnsHere rfl (t := 57) rfl (pc' := 52) rfl (by first | omega | exact (hM _ _).1 | exact (hM _ _).2) (by first | omega | exact (hM _ _).1 | exact (hM _ _).2) (fun c49 => ?_) (fun c49 => ?_)
          · refine je_ps jb_X12_turnsHere 1 (pc' := 59) (ls' := [_, _, _, _, _]) (st' := [_, _]) rfl ?_
            refine je_cvP' jb_X12_turnsHere rfl (pc' := 62) rfl (jh_at (a := 45) rfl) (by rfl) (by first | decide | exact Nat.ble_eq_true_of_le (by omega)) (k_gwrites (c := b) bl hy (by omega)) (st' := []) rfl ?_
            refine je_iinc jb_X12_turnsHere rfl (pc' := 65) rfl rfl (ls' := [_, _, _, _, _]) rfl ?_
            refine je_ps jb_X12_turnsHere 1 (pc' := 42) (ls' := [_, _, _, _, _]) (st' := []) rfl ?_
            refine kv _ _ ⟨_, _, rfl, jh_eq ?_, f1, by omega⟩
            rw [List.replicate_succ', ← List.append_assoc]
          · refine je_ps jb_X12_turnsHere 2 (pc' := 59) (ls' := [_, _, _, _, _]) (st' := [_, _]) rfl ?_
            refine je_cvP' jb_X12_turnsHere rfl (pc' := 62) rfl (jh_at (a := 45) rfl) (by rfl) (by first | decide | exact Nat.ble_eq_true_of_le (by omega)) (k_gwrites (c := b) bl hy (by omega)) (st' := []) rfl ?_
            refine je_iinc jb_X12_turnsHere rfl (pc' := 65) rfl rfl (ls' := [_, _, _, _, _]) rfl ?_
            refine je_ps jb_X12_turnsHere 1 (pc' := 42) (ls' := [_, _, _, _, _]) (st' := []) rfl ?_
            refine kv _ _ ⟨_, _, rfl, jh_eq ?_, f1, by omega⟩
            rw [List.replicate_succ', ← List.append_assoc]
      · obtain ⟨fl, C, rfl, rfl, ⟨f1, f2⟩⟩ := gv
        refine je_ps jb_X12_turnsHere 1 (pc' := 44) (ls' := [_, _, _, _, _]) (st' := [_]) rfl ?_
        refine je_ifle jb_X12_turnsHere rfl (t := 68) rfl (pc' := 47) rfl (by first | omega | exact (hM _ _).1 | exact (hM _ _).2) (by first | omega | exact (hM _ _).1 | exact (hM _ _).2) (fun c44 => ?_) (fun c44 => ?_)
        · exact je_ret jb_X12_turnsHere rfl (by rfl) ⟨rfl, rfl⟩
        · first | (exfalso; omega) | (cases c44; done) | (exfalso; simp_all; done)
    · first | (exfalso; omega) | (cases c27; done) | (exfalso; simp_all; done)
  · refine je_ps jb_X12_turnsHere 4 (pc' := 27) (ls' := [_, _, _, _, _]) (st' := [_]) rfl ?_
    refine je_ifeq jb_X12_turnsHere rfl (t := 34) rfl (pc' := 30) rfl (by first | omega | exact (hM _ _).1 | exact (hM _ _).2) (by first | omega | exact (hM _ _).1 | exact (hM _ _).2) (fun c27 => ?_) (fun c27 => ?_)
    · first | (exfalso; omega) | (cases c27; done) | (exfalso; simp_all; done)
    · refine je_ps jb_X12_turnsHere 3 (pc' := 42) (ls' := [_, _, _, _, _]) (st' := []) rfl ?_
      refine je_loop (fun (v : Nat) ls σ' => ∃ fl C, ls = [.ref 45, .int (jI w), .int (jI (fSh 0 n L x.2.1)), .int (jI fl), .int (jI C)] ∧ σ' = jh (gH m (x.1 ++ List.replicate v b, x.2) y) r T ∧ ((fl = 1 ∧ b = 0) ∨ (fl = 0 ∧ b = 1)) ∧ C = min (fSh 0 n L x.2.1) (k - fSh 0 n L x.2.1) - (v : Int)) ((min (fSh 0 n L x.2.1) (k - fSh 0 n L x.2.1)).toNat) ⟨_, _, rfl, jh_eq (by rw [show List.replicate 0 b = ([] : List Int) from rfl, List.append_nil]), by omega, by omega⟩ (fun v hv ls σ' gv kv => ?_) (fun ls σ' gv => ?_)
      · obtain ⟨fl, C, rfl, rfl, ⟨f1, f2⟩⟩ := gv
        have bl : (((x.1 ++ List.replicate v b, x.2) : xT).1.length : Int) ≤ 1000 := by (show ((x.1 ++ List.replicate v b).length : Int) ≤ 1000); (rw [List.length_append, List.length_replicate]; omega)
        refine je_ps jb_X12_turnsHere 1 (pc' := 44) (ls' := [_, _, _, _, _]) (st' := [_]) rfl ?_
        refine je_ifle jb_X12_turnsHere rfl (t := 68) rfl (pc' := 47) rfl (by first | omega | exact (hM _ _).1 | exact (hM _ _).2) (by first | omega | exact (hM _ _).1 | exact (hM _ _).2) (fun c44 => ?_) (fun c44 => ?_)
        · first | (exfalso; omega) | (cases c44; done) | (exfalso; simp_all; done)
        · refine je_ps jb_X12_turnsHere 2 (pc' := 49) (ls' := [_, _, _, _, _]) (st' := [_, _]) rfl ?_
          refine je_ifeq jb_X12_turnsHere rfl (t := 57) rfl (pc' := 52) rfl (by first | omega | exact (hM _ _).1 | exact (hM _ _).2) (by first | omega | exact (hM _ _).1 | exact (hM _ _).2) (fun c49 => ?_) (fun c49 => ?_)
          · refine je_ps jb_X12_turnsHere 1 (pc' := 59) (ls' := [_, _, _, _, _]) (st' := [_, _]) rfl ?_
            refine je_cvP' jb_X12_turnsHere rfl (pc' := 62) rfl (jh_at (a := 45) rfl) (by rfl) (by first | decide | exact Nat.ble_eq_true_of_le (by omega)) (k_gwrites (c := b) bl hy (by omega)) (st' := []) rfl ?_
            refine je_iinc jb_X12_turnsHere rfl (pc' := 65) rfl rfl (ls' := [_, _, _, _, _]) rfl ?_
            refine je_ps jb_X12_turnsHere 1 (pc' := 42) (ls' := [_, _, _, _, _]) (st' := []) rfl ?_
            refine kv _ _ ⟨_, _, rfl, jh_eq ?_, f1, by omega⟩
            rw [List.replicate_succ', ← List.append_assoc]
          · refine je_ps jb_X12_turnsHere 2 (pc' := 59) (ls' := [_, _, _, _, _]) (st' := [_, _]) rfl ?_
            refine je_cvP' jb_X12_turnsHere rfl (pc' := 62) rfl (jh_at (a := 45) rfl) (by rfl) (by first | decide | exact Nat.ble_eq_true_of_le (by omega)) (k_gwrites (c := b) bl hy (by omega)) (st' := []) rfl ?_
            refine je_iinc jb_X12_turnsHere rfl (pc' := 65) rfl rfl (ls' := [_, _, _, _, _]) rfl ?_
            refine je_ps jb_X12_turnsHere 1 (pc' := 42) (ls' := [_, _, _, _, _]) (st' := []) rfl ?_
            refine kv _ _ ⟨_, _, rfl, jh_eq ?_, f1, by omega⟩
            rw [List.replicate_succ', ← List.append_assoc]
      · obtain ⟨fl, C, rfl, rfl, ⟨f1, f2⟩⟩ := gv
        refine je_ps jb_X12_turnsHere 1 (pc' := 44) (ls' := [_, _, _, _, _]) (st' := [_]) rfl ?_
        refine je_ifle jb_X12_turnsHere rfl (t := 68) rfl (pc' := 47) rfl (by first | omega | exact (hM _ _).1 | exact (hM _ _).2) (by first | omega | exact (hM _ _).1 | exact (hM _ _).2) (fun c44 => ?_) (fun c44 => ?_)
        · exact je_ret jb_X12_turnsHere rfl (by rfl) ⟨rfl, rfl⟩
        · first | (exfalso; omega) | (cases c44; done) | (exfalso; simp_all; done)
end C76
