/-! THE LETTERS DONE -/
section C30
variable {sc : Nat × (Nat → Int32)} {m : Nat → Int → Int} {r : Nat → Nat → Value} {T : jx_H} {σ : jx_H}
def tRep (s n k l : Int) (w : (Int → Int) × Int) : Nat → Bool × (Int → Int) × Int
  | 0 => (true, w)
  | t + 1 => if (tRep s n k l w t).1 = true then fGo s n k (tRep s n k l w t).2.1 (tRep s n k l w t).2.2 l else tRep s n k l w t
theorem tRep_ok {s n k l : Int} {w : (Int → Int) × Int} (h : fS s n k) (hL : fL n k w.1) (he : fC s n w.2) : ∀ t, fL n k (tRep s n k l w t).2.1 ∧ fC s n (tRep s n k l w t).2.2
  | 0 => ⟨hL, he⟩
  | t + 1 => by
    have q := tRep_ok (l := l) h hL he t
    unfold tRep
    split
    · exact fGo_ok h q.1 q.2
    · exact q
theorem tRep_stay {s n k l : Int} {w : (Int → Int) × Int} {v : Nat} (h : (tRep s n k l w v).1 = false) : ∀ u, v ≤ u → tRep s n k l w u = tRep s n k l w v
  | 0, hw => by
    have : v = 0 := by omega
    rw [this]
  | u + 1, hw => by
    by_cases h1 : v = u + 1
    · rw [h1]
    · have q := tRep_stay h u (by omega)
      show (if (tRep s n k l w u).1 = true then _ else tRep s n k l w u) = _
      rw [q, h]
      rfl
def tOft (q : (Int → Int) × Int) (p : Int) : Int := if tD q (p + 1) = true then fRAt q.1 q.2 (p + 1) - 48 else 1
def tStep (s n k : Int) (q : (Int → Int) × Int) (w : (Int → Int) × Int) (p : Int) : Bool × (Int → Int) × Int := if fLet (fRAt q.1 q.2 p) < 0 then (true, w) else tRep s n k (fLet (fRAt q.1 q.2 p)) w (tOft q p).toNat
def tS (s n k : Int) (q : (Int → Int) × Int) : Nat → (Int → Int) × Int
  | 0 => (fun _ => 0, 0)
  | p + 1 => (tStep s n k q (tS s n k q p) (p : Int)).2
theorem tStep_ok {s n k : Int} {q w : (Int → Int) × Int} (h : fS s n k) (hL : fL n k w.1) (he : fC s n w.2) (p : Int) : fL n k (tStep s n k q w p).2.1 ∧ fC s n (tStep s n k q w p).2.2 := by
  unfold tStep
  split
  · exact ⟨hL, he⟩
  · exact tRep_ok h hL he _
theorem tS_ok {s n k : Int} {q : (Int → Int) × Int} (h : fS s n k) : ∀ p, fL n k (tS s n k q p).1 ∧ fC s n (tS s n k q p).2
  | 0 => ⟨fL_0 h, fC_0 h⟩
  | p + 1 => by
    have g := tS_ok (q := q) h p
    exact tStep_ok h g.1 g.2 _
/-- where a letter can't be done: behind all, if nowhere -/
def tF (s n k : Int) (q : (Int → Int) × Int) : Nat := fFst (fun p => !(tStep s n k q (tS s n k q p) (p : Int)).1) 0 q.2.toNat
theorem tOft_i {q : (Int → Int) × Int} (p : Int) (hf : ∀ p, 0 ≤ q.1 p ∧ q.1 p ≤ 255) : 1 ≤ tOft q p ∧ tOft q p ≤ 9 := by
  unfold tOft
  split
  · rename_i h
    have := of_decide_eq_true h
    omega
  · omega
theorem jQ35.w {i : Nat} (hi : i < 13) {q : (Int → Int) × Int} (g : jQ35 m q) (L : Int → Int) (e : Int) : jQ35 (jW m i L e) q := by
  have h : ∀ i ∈ List.range 13, jwa i ≠ 37 ∧ jwa i ≠ 38 ∧ jwl i ≠ 37 ∧ jwl i ≠ 38 := by decide
  obtain ⟨h1, h2, h3, h4⟩ := h i (List.mem_range.mpr hi)
  unfold jQ35 at *
  rw [jW_ne h3.symm h1.symm, jW_ne h4.symm h2.symm]
  exact g
def tAns (s n k : Int) (q : (Int → Int) × Int) (c : Int) : Int := if 0 ≤ tStr q then -1000 - tStr q else if tF s n k q < q.2.toNat then -2000 - (tF s n k q : Int) else c
def tMem (s n k : Int) (q : (Int → Int) × Int) (c : Int) (m : Nat → Int → Int) (i : Nat) : Nat → Int → Int :=
  if 0 ≤ tStr q then m else if tF s n k q < q.2.toNat then jW m i (tS s n k q (tF s n k q + 1)).1 (tS s n k q (tF s n k q + 1)).2 else jU (jW m i (tS s n k q q.2.toNat).1 (tS s n k q q.2.toNat).2) 1 (ju (m 1) 2 (c + 1))
theorem tStr_i (q : (Int → Int) × Int) (h : q.2 ≤ 72) : -1 ≤ tStr q ∧ tStr q ≤ 72 := by
  unfold tStr
  split
  · omega
  · split <;> omega
theorem jW_1 {i : Nat} (hi : i < 13) (m : Nat → Int → Int) (L : Int → Int) (e : Int) : jW m i L e 1 = m 1 := by
  have h : ∀ i ∈ List.range 13, jwa i ≠ 1 ∧ jwl i ≠ 1 := by decide
  obtain ⟨h1, h2⟩ := h i (List.mem_range.mpr hi)
  rw [jW_ne h2.symm h1.symm]
theorem k_makeTold {i : Nat} (hi : i < 13) {s n k c : Int} {q : (Int → Int) × Int} (zi : jZ m i) (gi : jStr m i s n k) (gq : jQ35 m q) (hf : ∀ p, 0 ≤ q.1 p ∧ q.1 p ≤ 255) (hc : m 1 2 = c) : jq sc 6 jm_X11_makeTold [.ref 0, .ref (jwa i)] (jh m r T) (jP (some (.int (jI (tAns s n k q c)))) (jh (tMem s n k q c m i) r T)) := by
  have gz := gq.2.2
  have gq0 := gq
  have gt := tStr_i q gz.2
  have gs := gi.2
  refine je_in jb_X11_makeTold rfl (ls := [_, _, _, _, _, _, _]) rfl ?_
  refine je_ps jb_X11_makeTold 1 (pc' := 1) (ls' := [_, _, _, _, _, _, _]) (st' := [_]) rfl ?_
  refine je_cvP' jb_X11_makeTold rfl (pc' := 4) rfl (jh_at (a := 0) rfl) (by rfl) (by first | decide | exact Nat.ble_eq_true_of_le (by omega)) (k_firstStranger gq hf) (st' := [_]) rfl ?_
  refine je_ps jb_X11_makeTold 2 (pc' := 6) (ls' := [_, _, _, _, _, _, _]) (st' := [_]) rfl ?_
  refine je_iflt jb_X11_makeTold rfl (t := 15) rfl (pc' := 9) rfl (by first | omega | exact (hM _ _).1 | exact (hM _ _).2) (by first | omega | exact (hM _ _).1 | exact (hM _ _).2) (fun c6 => ?_) (fun c6 => ?_)
  · refine je_ps jb_X11_makeTold 1 (pc' := 16) (ls' := [_, _, _, _, _, _, _]) (st' := [_]) rfl ?_
    refine je_cvP' jb_X11_makeTold rfl (pc' := 19) rfl (by first | exact jh_V hi g | exact jh_V hi (g0.R37 hi _) | exact jh_walk hi) (by rfl) (by first | decide | exact Nat.ble_eq_true_of_le (by omega)) (k_clear hi zi) (st' := []) rfl ?_
    refine je_ps jb_X11_makeTold 2 (pc' := 21) (ls' := [_, _, _, _, _, _, _]) (st' := []) rfl ?_
    refine je_loop (fun (v : Nat) ls σ' => ∃ x y z, ls = [.ref 0, .ref (jwa i), .int (jI (tStr q)), .int (jI v), x, y, z] ∧ σ' = jh (jW m i (tS s n k q v).1 (tS s n k q v).2) r T ∧ ∀ p : Nat, p < v → (!(tStep s n k q (tS s n k q p) (p : Int)).1) = false) (q.2.toNat) ⟨_, _, _, rfl, rfl, fun p hp => by omega⟩ (fun v hv ls σ' gv kv => ?_) (fun ls σ' gv => ?_)
    · obtain ⟨x, y, z, rfl, rfl, fv⟩ := gv
      have gok := tS_ok (q := q) gs v
      have gq := gq0.w hi (tS s n k q v).1 (tS s n k q v).2
      have e1 := gq.2.1
      have gr := fRAt_i q.2 (v : Int) hf
      have gr1 := fRAt_i q.2 ((v : Int) + 1) hf
      have gl := fLet_c (fRAt q.1 q.2 (v : Int))
      have go := tOft_i (q := q) (v : Int) hf
      obtain ⟨N, hN⟩ : ∃ N : Nat, (fLet (fRAt q.1 q.2 (v : Int)) < 0 ∧ N = 0) ∨ (0 ≤ fLet (fRAt q.1 q.2 (v : Int)) ∧ N = (tOft q (v : Int)).toNat) := by by_cases h : fLet (fRAt q.1 q.2 (v : Int)) < 0; exact ⟨0, Or.inl ⟨h, rfl⟩⟩; exact ⟨_, Or.inr ⟨by omega, rfl⟩⟩
      have es : tStep s n k q (tS s n k q v) (v : Int) = tRep s n k (fLet (fRAt q.1 q.2 (v : Int))) (tS s n k q v) N := by rcases hN with ⟨h1, h2⟩ | ⟨h1, h2⟩; (rw [tStep, if_pos h1, h2]; rfl); (rw [tStep, if_neg (by omega), h2])
      refine je_ps jb_X11_makeTold 2 (pc' := 23) (ls' := [_, _, _, _, _, _, _]) (st' := [_, _]) rfl ?_
      refine je_get jb_X11_makeTold rfl (pc' := 26) rfl (jh_at (a := 0) rfl) (by rfl) (by rfl) ?_
      refine je_get jb_X11_makeTold rfl (pc' := 29) rfl (jh_at (a := 37) rfl) (by rfl) (by rfl) ?_
      refine je_icmpge jb_X11_makeTold rfl (t := 122) rfl (pc' := 32) rfl (by first | omega | exact (hM _ _).1 | exact (hM _ _).2) (by first | omega | exact (hM _ _).1 | exact (hM _ _).2) (by first | omega | exact (hM _ _).1 | exact (hM _ _).2) (by first | omega | exact (hM _ _).1 | exact (hM _ _).2) (fun c29 => ?_) (fun c29 => ?_)
      · first | (exfalso; omega) | (cases c29; done) | (exfalso; simp_all; done)
      · refine je_ps jb_X11_makeTold 1 (pc' := 33) (ls' := [_, _, _, _, _, _, _]) (st' := [_]) rfl ?_
        refine je_get jb_X11_makeTold rfl (pc' := 36) rfl (jh_at (a := 0) rfl) (by rfl) (by rfl) ?_
        refine je_ps jb_X11_makeTold 1 (pc' := 37) (ls' := [_, _, _, _, _, _, _]) (st' := [_, _]) rfl ?_
        refine je_cvP' jb_X11_makeTold rfl (pc' := 40) rfl (jh_at (a := 37) rfl) (by rfl) (by first | decide | exact Nat.ble_eq_true_of_le (by omega)) (k35_at gq (by omega)) (st' := [_]) rfl ?_
        refine je_csP' jb_X11_makeTold rfl (pc' := 43) rfl (by rfl) (by first | decide | exact Nat.ble_eq_true_of_le (by omega)) (c_X11_letterOf (by omega)) (st' := [_]) rfl ?_
        refine je_ps jb_X11_makeTold 2 (pc' := 46) (ls' := [_, _, _, _, _, _, _]) (st' := [_]) rfl ?_
        refine je_get jb_X11_makeTold rfl (pc' := 49) rfl (jh_at (a := 0) rfl) (by rfl) (by rfl) ?_
        refine je_ps jb_X11_makeTold 2 (pc' := 51) (ls' := [_, _, _, _, _, _, _]) (st' := [_, _, _]) rfl ?_
        refine je_iadd jb_X11_makeTold rfl (pc' := 52) rfl ?_
        refine je_cvP' jb_X11_makeTold rfl (pc' := 55) rfl (jh_at (a := 37) rfl) (by rfl) (by first | decide | exact Nat.ble_eq_true_of_le (by omega)) (k35_at gq (by omega)) (st' := [_]) rfl ?_
        refine je_csP' jb_X11_makeTold rfl (pc' := 58) rfl (by rfl) (by first | decide | exact Nat.ble_eq_true_of_le (by omega)) (c_X11_isDigit (by omega)) (st' := [_]) rfl ?_
        refine je_ifeqb jb_X11_makeTold rfl (t := 77) rfl (pc' := 61) rfl (fun c58 => ?_) (fun c58 => ?_)
        · refine je_ps jb_X11_makeTold 4 (pc' := 83) (ls' := [_, _, _, _, _, _, _]) (st' := []) rfl ?_
          refine je_loop (fun (t : Nat) ls σ' => ls = [.ref 0, .ref (jwa i), .int (jI (tStr q)), .int (jI v), .int (jI (fLet (fRAt q.1 q.2 (v : Int)))), .int (jI (tOft q (v : Int))), .int (jI t)] ∧ σ' = jh (jW m i (tRep s n k (fLet (fRAt q.1 q.2 (v : Int))) (tS s n k q v) t).2.1 (tRep s n k (fLet (fRAt q.1 q.2 (v : Int))) (tS s n k q v) t).2.2) r T ∧ (tRep s n k (fLet (fRAt q.1 q.2 (v : Int))) (tS s n k q v) t).1 = true) (N) ⟨by first | rw [show tOft q (v : Int) = fRAt q.1 q.2 ((v : Int) + 1) - 48 from if_pos c58]; rfl | rw [show tOft q (v : Int) = 1 from if_neg (by rw [show tD q ((v : Int) + 1) = false from c58]; decide)]; rfl, rfl, rfl⟩ (fun t ht ls σ' gt kt => ?_) (fun ls σ' gt => ?_)
          · obtain ⟨rfl, rfl, ft⟩ := gt
            have gtk := tRep_ok (l := fLet (fRAt q.1 q.2 (v : Int))) gs gok.1 gok.2 t
            have g := jWk.w (m := m) gi hi gtk.1 gtk.2
            have ge : tRep s n k (fLet (fRAt q.1 q.2 (v : Int))) (tS s n k q v) (t + 1) = fGo s n k (tRep s n k (fLet (fRAt q.1 q.2 (v : Int))) (tS s n k q v) t).2.1 (tRep s n k (fLet (fRAt q.1 q.2 (v : Int))) (tS s n k q v) t).2.2 (fLet (fRAt q.1 q.2 (v : Int))) := if_pos ft
            refine je_ps jb_X11_makeTold 1 (pc' := 85) (ls' := [_, _, _, _, _, _, _]) (st' := [_]) rfl ?_
            refine je_iflt jb_X11_makeTold rfl (t := 116) rfl (pc' := 88) rfl (by first | omega | exact (hM _ _).1 | exact (hM _ _).2) (by first | omega | exact (hM _ _).1 | exact (hM _ _).2) (fun c85 => ?_) (fun c85 => ?_)
            · refine je_iinc jb_X11_makeTold rfl (pc' := 119) rfl rfl (ls' := [_, _, _, _, _, _, _]) rfl ?_
              refine je_ps jb_X11_makeTold 1 (pc' := 21) (ls' := [_, _, _, _, _, _, _]) (st' := []) rfl ?_
              first | (exfalso; omega) | (refine kv _ _ ⟨_, _, _, rfl, jh_eq ?_, fun p hp => ?_⟩; (show _ = jW m i (tStep s n k q (tS s n k q v) (v : Int)).2.1 (tStep s n k q (tS s n k q v) (v : Int)).2.2; rw [es]); (by_cases h : p = v; (subst h; rw [es, ft]; rfl); exact fv p (by omega)))
            · refine je_ps jb_X11_makeTold 2 (pc' := 92) (ls' := [_, _, _, _, _, _, _]) (st' := [_, _]) rfl ?_
              refine je_icmpge jb_X11_makeTold rfl (t := 116) rfl (pc' := 95) rfl (by first | omega | exact (hM _ _).1 | exact (hM _ _).2) (by first | omega | exact (hM _ _).1 | exact (hM _ _).2) (by first | omega | exact (hM _ _).1 | exact (hM _ _).2) (by first | omega | exact (hM _ _).1 | exact (hM _ _).2) (fun c92 => ?_) (fun c92 => ?_)
              · first | (exfalso; omega) | (cases c92; done) | (exfalso; simp_all; done)
              · refine je_ps jb_X11_makeTold 2 (pc' := 98) (ls' := [_, _, _, _, _, _, _]) (st' := [_, _]) rfl ?_
                refine je_cvP' jb_X11_makeTold rfl (pc' := 101) rfl (by first | exact jh_V hi g | exact jh_V hi (g0.R37 hi _) | exact jh_walk hi) (by rfl) (by first | decide | exact Nat.ble_eq_true_of_le (by omega)) (k_goOn hi g (by omega)) (st' := [_]) rfl ?_
                refine je_ifneb jb_X11_makeTold rfl (t := 110) rfl (pc' := 104) rfl (fun c101 => ?_) (fun c101 => ?_)
                · refine je_iinc jb_X11_makeTold rfl (pc' := 113) rfl rfl (ls' := [_, _, _, _, _, _, _]) rfl ?_
                  refine je_ps jb_X11_makeTold 1 (pc' := 83) (ls' := [_, _, _, _, _, _, _]) (st' := []) rfl ?_
                  refine kt _ _ ⟨rfl, jh_eq ?_, ?_⟩
                  · rw [jW_W hi, ge]
                  · rw [ge]; assumption
                · refine je_ps jb_X11_makeTold 2 (pc' := 108) (ls' := [_, _, _, _, _, _, _]) (st' := [_, _]) rfl ?_
                  refine je_isub jb_X11_makeTold rfl (pc' := 109) rfl ?_
                  have f1 : (tRep s n k (fLet (fRAt q.1 q.2 (v : Int))) (tS s n k q v) (t + 1)).1 = false := by rw [ge]; exact c101
                  have f2 := tRep_stay f1 N (by omega)
                  have f3 : (!(tStep s n k q (tS s n k q v) (v : Int)).1) = true := by rw [es, f2, f1]; rfl
                  have ef : tF s n k q = v := fFst_hit (P := fun p : Nat => !(tStep s n k q (tS s n k q p) (p : Int)).1) f3 _ 0 (by omega) (by omega) (fun p _ hp => fv p hp)
                  exact je_ret jb_X11_makeTold rfl (by rfl) ⟨by rw [tAns, if_neg (by omega), ef, if_pos hv], jh_eq (by rw [tMem, if_neg (by omega), ef, if_pos hv, jW_W hi]; show _ = jW m i (tStep s n k q (tS s n k q v) (v : Int)).2.1 (tStep s n k q (tS s n k q v) (v : Int)).2.2; rw [es, f2, ge])⟩
          · obtain ⟨rfl, rfl, ft⟩ := gt
            refine je_ps jb_X11_makeTold 1 (pc' := 85) (ls' := [_, _, _, _, _, _, _]) (st' := [_]) rfl ?_
            refine je_iflt jb_X11_makeTold rfl (t := 116) rfl (pc' := 88) rfl (by first | omega | exact (hM _ _).1 | exact (hM _ _).2) (by first | omega | exact (hM _ _).1 | exact (hM _ _).2) (fun c85 => ?_) (fun c85 => ?_)
            · refine je_iinc jb_X11_makeTold rfl (pc' := 119) rfl rfl (ls' := [_, _, _, _, _, _, _]) rfl ?_
              refine je_ps jb_X11_makeTold 1 (pc' := 21) (ls' := [_, _, _, _, _, _, _]) (st' := []) rfl ?_
              first | (exfalso; omega) | (refine kv _ _ ⟨_, _, _, rfl, jh_eq ?_, fun p hp => ?_⟩; (show _ = jW m i (tStep s n k q (tS s n k q v) (v : Int)).2.1 (tStep s n k q (tS s n k q v) (v : Int)).2.2; rw [es]); (by_cases h : p = v; (subst h; rw [es, ft]; rfl); exact fv p (by omega)))
            · refine je_ps jb_X11_makeTold 2 (pc' := 92) (ls' := [_, _, _, _, _, _, _]) (st' := [_, _]) rfl ?_
              refine je_icmpge jb_X11_makeTold rfl (t := 116) rfl (pc' := 95) rfl (by first | omega | exact (hM _ _).1 | exact (hM _ _).2) (by first | omega | exact (hM _ _).1 | exact (hM _ _).2) (by first | omega | exact (hM _ _).1 | exact (hM _ _).2) (by first | omega | exact (hM _ _).1 | exact (hM _ _).2) (fun c92 => ?_) (fun c92 => ?_)
              · refine je_iinc jb_X11_makeTold rfl (pc' := 119) rfl rfl (ls' := [_, _, _, _, _, _, _]) rfl ?_
                refine je_ps jb_X11_makeTold 1 (pc' := 21) (ls' := [_, _, _, _, _, _, _]) (st' := []) rfl ?_
                first | (exfalso; omega) | (refine kv _ _ ⟨_, _, _, rfl, jh_eq ?_, fun p hp => ?_⟩; (show _ = jW m i (tStep s n k q (tS s n k q v) (v : Int)).2.1 (tStep s n k q (tS s n k q v) (v : Int)).2.2; rw [es]); (by_cases h : p = v; (subst h; rw [es, ft]; rfl); exact fv p (by omega)))
              · first | (exfalso; omega) | (cases c92; done) | (exfalso; simp_all; done)
        · refine je_ps jb_X11_makeTold 1 (pc' := 62) (ls' := [_, _, _, _, _, _, _]) (st' := [_]) rfl ?_
          refine je_get jb_X11_makeTold rfl (pc' := 65) rfl (jh_at (a := 0) rfl) (by rfl) (by rfl) ?_
          refine je_ps jb_X11_makeTold 2 (pc' := 67) (ls' := [_, _, _, _, _, _, _]) (st' := [_, _, _]) rfl ?_
          refine je_iadd jb_X11_makeTold rfl (pc' := 68) rfl ?_
          refine je_cvP' jb_X11_makeTold rfl (pc' := 71) rfl (jh_at (a := 37) rfl) (by rfl) (by first | decide | exact Nat.ble_eq_true_of_le (by omega)) (k35_at gq (by omega)) (st' := [_]) rfl ?_
          refine je_ps jb_X11_makeTold 1 (pc' := 73) (ls' := [_, _, _, _, _, _, _]) (st' := [_, _]) rfl ?_
          refine je_isub jb_X11_makeTold rfl (pc' := 74) rfl ?_
          refine je_ps jb_X11_makeTold 4 (pc' := 83) (ls' := [_, _, _, _, _, _, _]) (st' := []) rfl ?_
          refine je_loop (fun (t : Nat) ls σ' => ls = [.ref 0, .ref (jwa i), .int (jI (tStr q)), .int (jI v), .int (jI (fLet (fRAt q.1 q.2 (v : Int)))), .int (jI (tOft q (v : Int))), .int (jI t)] ∧ σ' = jh (jW m i (tRep s n k (fLet (fRAt q.1 q.2 (v : Int))) (tS s n k q v) t).2.1 (tRep s n k (fLet (fRAt q.1 q.2 (v : Int))) (tS s n k q v) t).2.2) r T ∧ (tRep s n k (fLet (fRAt q.1 q.2 (v : Int))) (tS s n k q v) t).1 = true) (N) ⟨by first | rw [show tOft q (v : Int) = fRAt q.1 q.2 ((v : Int) + 1) - 48 from if_pos c58]; rfl | rw [show tOft q (v : Int) = 1 from if_neg (by rw [show tD q ((v : Int) + 1) = false from c58]; decide)]; rfl, rfl, rfl⟩ (fun t ht ls σ' gt kt => ?_) (fun ls σ' gt => ?_)
          · obtain ⟨rfl, rfl, ft⟩ := gt
            have gtk := tRep_ok (l := fLet (fRAt q.1 q.2 (v : Int))) gs gok.1 gok.2 t
            have g := jWk.w (m := m) gi hi gtk.1 gtk.2
            have ge : tRep s n k (fLet (fRAt q.1 q.2 (v : Int))) (tS s n k q v) (t + 1) = fGo s n k (tRep s n k (fLet (fRAt q.1 q.2 (v : Int))) (tS s n k q v) t).2.1 (tRep s n k (fLet (fRAt q.1 q.2 (v : Int))) (tS s n k q v) t).2.2 (fLet (fRAt q.1 q.2 (v : Int))) := if_pos ft
            refine je_ps jb_X11_makeTold 1 (pc' := 85) (ls' := [_, _, _, _, _, _, _]) (st' := [_]) rfl ?_
            refine je_iflt jb_X11_makeTold rfl (t := 116) rfl (pc' := 88) rfl (by first | omega | exact (hM _ _).1 | exact (hM _ _).2) (by first | omega | exact (hM _ _).1 | exact (hM _ _).2) (fun c85 => ?_) (fun c85 => ?_)
            · refine je_iinc jb_X11_makeTold rfl (pc' := 119) rfl rfl (ls' := [_, _, _, _, _, _, _]) rfl ?_
              refine je_ps jb_X11_makeTold 1 (pc' := 21) (ls' := [_, _, _, _, _, _, _]) (st' := []) rfl ?_
              first | (exfalso; omega) | (refine kv _ _ ⟨_, _, _, rfl, jh_eq ?_, fun p hp => ?_⟩; (show _ = jW m i (tStep s n k q (tS s n k q v) (v : Int)).2.1 (tStep s n k q (tS s n k q v) (v : Int)).2.2; rw [es]); (by_cases h : p = v; (subst h; rw [es, ft]; rfl); exact fv p (by omega)))
            · refine je_ps jb_X11_makeTold 2 (pc' := 92) (ls' := [_, _, _, _, _, _, _]) (st' := [_, _]) rfl ?_
              refine je_icmpge jb_X11_makeTold rfl (t := 116) rfl (pc' := 95) rfl (by first | omega | exact (hM _ _).1 | exact (hM _ _).2) (by first | omega | exact (hM _ _).1 | exact (hM _ _).2) (by first | omega | exact (hM _ _).1 | exact (hM _ _).2) (by first | omega | exact (hM _ _).1 | exact (hM _ _).2) (fun c92 => ?_) (fun c92 => ?_)
              · first | (exfalso; omega) | (cases c92; done) | (exfalso; simp_all; done)
              · refine je_ps jb_X11_makeTold 2 (pc' := 98) (ls' := [_, _, _, _, _, _, _]) (st' := [_, _]) rfl ?_
                refine je_cvP' jb_X11_makeTold rfl (pc' := 101) rfl (by first | exact jh_V hi g | exact jh_V hi (g0.R37 hi _) | exact jh_walk hi) (by rfl) (by first | decide | exact Nat.ble_eq_true_of_le (by omega)) (k_goOn hi g (by omega)) (st' := [_]) rfl ?_
                refine je_ifneb jb_X11_makeTold rfl (t := 110) rfl (pc' := 104) rfl (fun c101 => ?_) (fun c101 => ?_)
                · refine je_iinc jb_X11_makeTold rfl (pc' := 113) rfl rfl (ls' := [_, _, _, _, _, _, _]) rfl ?_
                  refine je_ps jb_X11_makeTold 1 (pc' := 83) (ls' := [_, _, _, _, _, _, _]) (st' := []) rfl ?_
                  refine kt _ _ ⟨rfl, jh_eq ?_, ?_⟩
                  · rw [jW_W hi, ge]
                  · rw [ge]; assumption
                · refine je_ps jb_X11_makeTold 2 (pc' := 108) (ls' := [_, _, _, _, _, _, _]) (st' := [_, _]) rfl ?_
                  refine je_isub jb_X11_makeTold rfl (pc' := 109) rfl ?_
                  have f1 : (tRep s n k (fLet (fRAt q.1 q.2 (v : Int))) (tS s n k q v) (t + 1)).1 = false := by rw [ge]; exact c101
                  have f2 := tRep_stay f1 N (by omega)
                  have f3 : (!(tStep s n k q (tS s n k q v) (v : Int)).1) = true := by rw [es, f2, f1]; rfl
                  have ef : tF s n k q = v := fFst_hit (P := fun p : Nat => !(tStep s n k q (tS s n k q p) (p : Int)).1) f3 _ 0 (by omega) (by omega) (fun p _ hp => fv p hp)
                  exact je_ret jb_X11_makeTold rfl (by rfl) ⟨by rw [tAns, if_neg (by omega), ef, if_pos hv], jh_eq (by rw [tMem, if_neg (by omega), ef, if_pos hv, jW_W hi]; show _ = jW m i (tStep s n k q (tS s n k q v) (v : Int)).2.1 (tStep s n k q (tS s n k q v) (v : Int)).2.2; rw [es, f2, ge])⟩
          · obtain ⟨rfl, rfl, ft⟩ := gt
            refine je_ps jb_X11_makeTold 1 (pc' := 85) (ls' := [_, _, _, _, _, _, _]) (st' := [_]) rfl ?_
            refine je_iflt jb_X11_makeTold rfl (t := 116) rfl (pc' := 88) rfl (by first | omega | exact (hM _ _).1 | exact (hM _ _).2) (by first | omega | exact (hM _ _).1 | exact (hM _ _).2) (fun c85 => ?_) (fun c85 => ?_)
            · refine je_iinc jb_X11_makeTold rfl (pc' := 119) rfl rfl (ls' := [_, _, _, _, _, _, _]) rfl ?_
              refine je_ps jb_X11_makeTold 1 (pc' := 21) (ls' := [_, _, _, _, _, _, _]) (st' := []) rfl ?_
              first | (exfalso; omega) | (refine kv _ _ ⟨_, _, _, rfl, jh_eq ?_, fun p hp => ?_⟩; (show _ = jW m i (tStep s n k q (tS s n k q v) (v : Int)).2.1 (tStep s n k q (tS s n k q v) (v : Int)).2.2; rw [es]); (by_cases h : p = v; (subst h; rw [es, ft]; rfl); exact fv p (by omega)))
            · refine je_ps jb_X11_makeTold 2 (pc' := 92) (ls' := [_, _, _, _, _, _, _]) (st' := [_, _]) rfl ?_
              refine je_icmpge jb_X11_makeTold rfl (t := 116) rfl (pc' := 95) rfl (by first | omega | exact (hM _ _).1 | exact (hM _ _).2) (by first | omega | exact (hM _ _).1 | exact (hM _ _).2) (by first | omega | exact (hM _ _).1 | exact (hM _ _).2) (by first | omega | exact (hM _ _).1 | exact (hM _ _).2) (fun c92 => ?_) (fun c92 => ?_)
              · refine je_iinc jb_X11_makeTold rfl (pc' := 119) rfl rfl (ls' := [_, _, _, _, _, _, _]) rfl ?_
                refine je_ps jb_X11_makeTold 1 (pc' := 21) (ls' := [_, _, _, _, _, _, _]) (st' := []) rfl ?_
                first | (exfalso; omega) | (refine kv _ _ ⟨_, _, _, rfl, jh_eq ?_, fun p hp => ?_⟩; (show _ = jW m i (tStep s n k q (tS s n k q v) (v : Int)).2.1 (tStep s n k q (tS s n k q v) (v : Int)).2.2; rw [es]); (by_cases h : p = v; (subst h; rw [es, ft]; rfl); exact fv p (by omega)))
              · first | (exfalso; omega) | (cases c92; done) | (exfalso; simp_all; done)
    · obtain ⟨x, y, z, rfl, rfl, fv⟩ := gv
      have gq := gq0.w hi (tS s n k q q.2.toNat).1 (tS s n k q q.2.toNat).2
      have e1 := gq.2.1
      refine je_ps jb_X11_makeTold 2 (pc' := 23) (ls' := [_, _, _, _, _, _, _]) (st' := [_, _]) rfl ?_
      refine je_get jb_X11_makeTold rfl (pc' := 26) rfl (jh_at (a := 0) rfl) (by rfl) (by rfl) ?_
      refine je_get jb_X11_makeTold rfl (pc' := 29) rfl (jh_at (a := 37) rfl) (by rfl) (by rfl) ?_
      refine je_icmpge jb_X11_makeTold rfl (t := 122) rfl (pc' := 32) rfl (by first | omega | exact (hM _ _).1 | exact (hM _ _).2) (by first | omega | exact (hM _ _).1 | exact (hM _ _).2) (by first | omega | exact (hM _ _).1 | exact (hM _ _).2) (by first | omega | exact (hM _ _).1 | exact (hM _ _).2) (fun c29 => ?_) (fun c29 => ?_)
      · refine je_ps jb_X11_makeTold 1 (pc' := 123) (ls' := [_, _, _, _, _, _, _]) (st' := [_]) rfl ?_
        refine je_get jb_X11_makeTold rfl (pc' := 126) rfl (jh_at (a := 0) rfl) (by rfl) (by rfl) ?_
        refine je_cvP' jb_X11_makeTold rfl (pc' := 129) rfl (jh_at (a := 1) rfl) (by rfl) (by first | decide | exact Nat.ble_eq_true_of_le (by omega)) (keepFreeWalk_n (c := c) (by rw [jW_1 hi]; exact hc)) (st' := [_]) rfl ?_
        have ef : tF s n k q = 0 + q.2.toNat := fFst_none (P := fun p : Nat => !(tStep s n k q (tS s n k q p) (p : Int)).1) _ 0 (fun p _ hp => fv p (by omega))
        exact je_ret jb_X11_makeTold rfl (by rfl) ⟨by rw [tAns, if_neg (by omega), ef, if_neg (by omega)], jh_eq (by rw [tMem, if_neg (by omega), ef, if_neg (by omega), jW_1 hi])⟩
      · first | (exfalso; omega) | (cases c29; done) | (exfalso; simp_all; done)
  · refine je_ps jb_X11_makeTold 2 (pc' := 13) (ls' := [_, _, _, _, _, _, _]) (st' := [_, _]) rfl ?_
    refine je_isub jb_X11_makeTold rfl (pc' := 14) rfl ?_
    exact je_ret jb_X11_makeTold rfl (by rfl) ⟨by rw [tAns, if_pos (by omega)], jh_eq (by rw [tMem, if_pos (by omega)])⟩
end C30
