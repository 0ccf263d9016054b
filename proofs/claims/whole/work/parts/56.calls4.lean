/-! CALLS of the class: rows kept, letters, words, the street -/
section C56
variable {sc : Nat × (Nat → Int32)} {m : Nat → Int → Int} {r : Nat → Nat → Value} {T : jx_H} {σ : jx_H}
theorem iC.r35 {A : aT} (I : iC A m r T) (q : wT) (ok : 0 ≤ q.2 ∧ q.2 ≤ 72) (ok2 : ∀ p, 0 ≤ q.1 p ∧ q.1 p ≤ 255) : iC (sQ A q) (jR35 m q) r T := by
  have hne : ∀ b, b ≠ 37 → b ≠ 38 → jR35 m q b = m b := fun b h1 h2 => jR35_ne h1 h2
  obtain ⟨i1, i2', ⟨i3, i4⟩, i5, i6, ⟨q7, i7⟩, ⟨q8, i8⟩, i9, i10⟩ := I
  refine ⟨⟨i1.1, i1.2.1, ok2, i1.2.2.2⟩, i2'.now i1.1.2.1 (fun b _ _ => hne b (by omega) (by omega)) rfl (tK.rfl' T), ⟨by rw [hne 0 (by omega) (by omega)]; exact i3, fun h => (i4 h).thn (i1.2.1 h).2.1 (fun b _ _ => hne b (by omega) (by omega)) rfl (tK.rfl' T)⟩, fun j hj p hp => ?_, jQ35_R m ok.1 ok.2, ⟨q7, ?_, i7.2⟩, ⟨q8, ?_, i8.2⟩, i9, fun j h0 h1 => ?_⟩
  · have w := jw_13 hj
    rw [hne _ (by omega) (by omega)]
    exact i5 j hj p hp
  · have := i7.1
    unfold jQ37 at *
    rw [hne 40 (by omega) (by omega), hne 39 (by omega) (by omega)]
    exact this
  · have := i8.1
    unfold jQ39 at *
    rw [hne 42 (by omega) (by omega), hne 41 (by omega) (by omega)]
    exact this
  · rw [hne 44 (by omega) (by omega)]
    exact i10 j h0 h1
theorem kG.r35 {m1 : Nat → Int → Int} (h : kG m m1) (q : wT) : kG m (jR35 m1 q) := h.tr fun b hb => jR35_ne (by omega) (by omega)
theorem iC.r37 {A : aT} (I : iC A m r T) {q : wT} (ok : 0 ≤ q.2 ∧ q.2 ≤ 110) (ok2 : qB q) : iC A (jR37 m q) r T := by
  have hne : ∀ b, b ≠ 39 → b ≠ 40 → jR37 m q b = m b := fun b h1 h2 => jR37_ne h1 h2
  obtain ⟨i1, i2', ⟨i3, i4⟩, i5, i6, ⟨q7, i7⟩, ⟨q8, i8⟩, i9, i10⟩ := I
  refine ⟨i1, i2'.now i1.1.2.1 (fun b _ _ => hne b (by omega) (by omega)) rfl (tK.rfl' T), ⟨by rw [hne 0 (by omega) (by omega)]; exact i3, fun h => (i4 h).thn (i1.2.1 h).2.1 (fun b _ _ => hne b (by omega) (by omega)) rfl (tK.rfl' T)⟩, fun j hj p hp => ?_, ?_, ⟨q, jQ37_R m ok.1 ok.2, ok2⟩, ⟨q8, ?_, i8.2⟩, i9, fun j h0 h1 => ?_⟩
  · have w := jw_13 hj
    rw [hne _ (by omega) (by omega)]
    exact i5 j hj p hp
  · unfold jQ35 at *
    rw [hne 38 (by omega) (by omega), hne 37 (by omega) (by omega)]
    exact i6
  · have := i8.1
    unfold jQ39 at *
    rw [hne 42 (by omega) (by omega), hne 41 (by omega) (by omega)]
    exact this
  · rw [hne 44 (by omega) (by omega)]
    exact i10 j h0 h1
theorem kG.r37 {m1 : Nat → Int → Int} (h : kG m m1) (q : wT) : kG m (jR37 m1 q) := h.tr fun b hb => jR37_ne (by omega) (by omega)
theorem iC.r39 {A : aT} (I : iC A m r T) {q : wT} (ok : qOk q) : iC A (jR39 m q) r T := by
  have hne : ∀ b, b ≠ 41 → b ≠ 42 → jR39 m q b = m b := fun b h1 h2 => jR39_ne h1 h2
  obtain ⟨i1, i2', ⟨i3, i4⟩, i5, i6, ⟨q7, i7⟩, ⟨q8, i8⟩, i9, i10⟩ := I
  refine ⟨i1, i2'.now i1.1.2.1 (fun b _ _ => hne b (by omega) (by omega)) rfl (tK.rfl' T), ⟨by rw [hne 0 (by omega) (by omega)]; exact i3, fun h => (i4 h).thn (i1.2.1 h).2.1 (fun b _ _ => hne b (by omega) (by omega)) rfl (tK.rfl' T)⟩, fun j hj p hp => ?_, ?_, ⟨q7, ?_, i7.2⟩, ⟨q, jQ39_R m ok.1.1 ok.1.2, ok⟩, i9, fun j h0 h1 => ?_⟩
  · have w := jw_13 hj
    rw [hne _ (by omega) (by omega)]
    exact i5 j hj p hp
  · unfold jQ35 at *
    rw [hne 38 (by omega) (by omega), hne 37 (by omega) (by omega)]
    exact i6
  · have := i7.1
    unfold jQ37 at *
    rw [hne 40 (by omega) (by omega), hne 39 (by omega) (by omega)]
    exact this
  · rw [hne 44 (by omega) (by omega)]
    exact i10 j h0 h1
theorem kG.r39 {m1 : Nat → Int → Int} (h : kG m m1) (q : wT) : kG m (jR39 m1 q) := h.tr fun b hb => jR39_ne (by omega) (by omega)
theorem iC.q {A : aT} (I : iC A m r T) : jQ35 m (aQ A) := I.2.2.2.2.1
theorem iC.qb {A : aT} (I : iC A m r T) : ∀ p, 0 ≤ (aQ A).1 p ∧ (aQ A).1 p ≤ 255 := I.1.2.2.1
def aLetter (A : aT) (x : Int) : Int × aT := if x < 0 then aRef A (-4) else if 255 < x then aRef A (-6) else if (aQ A).2 < 72 then ((aQ A).2 + 1, sQ A (ju (aQ A).1 (aQ A).2 x, (aQ A).2 + 1)) else aRef A (-6)
theorem cl_letter_p {A : aT} (I : iC A m r T) (cq : (aQ A).2 < 72) {x : Int} (hx : -2147483648 ≤ x ∧ x ≤ 2147483647) : jq sc 4 jm_X11_letter [.ref 0, .int (jI x)] (jh m r T) (cQ (aLetter A x) m T) := by
  have c6 := I.c6
  have fs := I.fs
  have gq := I.q.2.2
  refine je_in jb_X11_letter rfl (ls := [_, _]) rfl ?_
  refine je_ps jb_X11_letter 1 (pc' := 1) (ls' := [_, _]) (st' := [_]) rfl ?_
  refine je_ifge jb_X11_letter rfl (t := 11) rfl (pc' := 4) rfl (by first | omega | exact (hM _ _).1 | exact (hM _ _).2) (by first | omega | exact (hM _ _).1 | exact (hM _ _).2) (fun c1 => ?_) (fun c1 => ?_)
  · refine je_ps jb_X11_letter 2 (pc' := 15) (ls' := [_, _]) (st' := [_, _]) rfl ?_
    refine je_icmpgt jb_X11_letter rfl (t := 29) rfl (pc' := 18) rfl (by first | omega | exact (hM _ _).1 | exact (hM _ _).2) (by first | omega | exact (hM _ _).1 | exact (hM _ _).2) (by first | omega | exact (hM _ _).1 | exact (hM _ _).2) (by first | omega | exact (hM _ _).1 | exact (hM _ _).2) (fun c15 => ?_) (fun c15 => ?_)
    · refine je_ps jb_X11_letter 2 (pc' := 32) (ls' := [_, _]) (st' := [_, _]) rfl ?_
      refine je_cvP' jb_X11_letter rfl (pc' := 35) rfl (jh_at (a := 0) rfl) (by rfl) (by first | decide | exact Nat.ble_eq_true_of_le (by omega)) (c_X11_refuse (by omega)) (st' := [_]) rfl ?_
      first | (rw [show aLetter A x = aRef A (-6) from by unfold aLetter; rw [if_neg (by omega), if_pos (by omega)]]; exact je_ret jb_X11_letter rfl (by rfl) ⟨_, _, _, rfl, rfl, I.ref (by omega), kG.ref m _, tG.rfl' T⟩) | (rw [show fRA 72 (aQ A) x = aQ A from if_neg (show ¬ (aQ A).2 < ((72 : Nat) : Int) from cq), jR35_self I.q]; rw [show aLetter A x = aRef A (-6) from by unfold aLetter; rw [if_neg (by omega), if_neg (by omega), if_neg (by omega)]]; exact je_ret jb_X11_letter rfl (by rfl) ⟨_, _, _, rfl, rfl, I.ref (by omega), kG.ref m _, tG.rfl' T⟩)
    · refine je_ps jb_X11_letter 1 (pc' := 19) (ls' := [_, _]) (st' := [_]) rfl ?_
      refine je_get jb_X11_letter rfl (pc' := 22) rfl (jh_at (a := 0) rfl) (by rfl) (by rfl) ?_
      refine je_ps jb_X11_letter 1 (pc' := 23) (ls' := [_, _]) (st' := [_, _]) rfl ?_
      refine je_cvP' jb_X11_letter rfl (pc' := 26) rfl (jh_at (a := 37) rfl) (by rfl) (by first | decide | exact Nat.ble_eq_true_of_le (by omega)) (k35_add I.q hx) (st' := [_]) rfl ?_
      rw [decide_eq_true cq]
      refine je_ifneb jb_X11_letter rfl (t := 36) rfl (pc' := 29) rfl (fun c26 => ?_) (fun c26 => ?_)
      · first | rw [show fRA 72 (aQ A) x = (ju (aQ A).1 (aQ A).2 x, (aQ A).2 + 1) from if_pos (show (aQ A).2 < ((72 : Nat) : Int) from cq)] | skip
        refine je_ps jb_X11_letter 1 (pc' := 37) (ls' := [_, _]) (st' := [_]) rfl ?_
        refine je_get jb_X11_letter rfl (pc' := 40) rfl (jh_at (a := 0) rfl) (by rfl) (by rfl) ?_
        refine je_get jb_X11_letter rfl (pc' := 43) rfl (jh_at (a := 37) rfl) (by rfl) (by rfl) ?_
        first | (exfalso; omega) | (rw [show aLetter A x = ((aQ A).2 + 1, sQ A (ju (aQ A).1 (aQ A).2 x, (aQ A).2 + 1)) from by unfold aLetter; rw [if_neg (by omega), if_neg (by omega), if_pos (by omega)], (jQ35_R m (q := (ju (aQ A).1 (aQ A).2 x, (aQ A).2 + 1)) (by show 0 ≤ (aQ A).2 + 1; omega) (by show (aQ A).2 + 1 ≤ ((72 : Nat) : Int); omega)).2.1]; exact je_ret jb_X11_letter rfl (by rfl) ⟨_, _, _, rfl, rfl, I.r35 _ (by show 0 ≤ (aQ A).2 + 1 ∧ (aQ A).2 + 1 ≤ 72; omega) (fun p => by show 0 ≤ ju (aQ A).1 (aQ A).2 x p ∧ ju (aQ A).1 (aQ A).2 x p ≤ 255; unfold ju; split; omega; exact I.qb p), (kG.rfl' m).r35 _, tG.rfl' T⟩)
      · first | (exfalso; omega) | (cases c26; done) | (exfalso; simp_all; done)
  · refine je_ps jb_X11_letter 2 (pc' := 7) (ls' := [_, _]) (st' := [_, _]) rfl ?_
    refine je_cvP' jb_X11_letter rfl (pc' := 10) rfl (jh_at (a := 0) rfl) (by rfl) (by first | decide | exact Nat.ble_eq_true_of_le (by omega)) (c_X11_refuse (by omega)) (st' := [_]) rfl ?_
    rw [show aLetter A x = aRef A (-4) from by unfold aLetter; rw [if_pos (by omega)]]
    exact je_ret jb_X11_letter rfl (by rfl) ⟨_, _, _, rfl, rfl, I.ref (by omega), kG.ref m _, tG.rfl' T⟩
theorem cl_letter_q {A : aT} (I : iC A m r T) (cq : ¬ (aQ A).2 < 72) {x : Int} (hx : -2147483648 ≤ x ∧ x ≤ 2147483647) : jq sc 4 jm_X11_letter [.ref 0, .int (jI x)] (jh m r T) (cQ (aLetter A x) m T) := by
  have c6 := I.c6
  have fs := I.fs
  have gq := I.q.2.2
  refine je_in jb_X11_letter rfl (ls := [_, _]) rfl ?_
  refine je_ps jb_X11_letter 1 (pc' := 1) (ls' := [_, _]) (st' := [_]) rfl ?_
  refine je_ifge jb_X11_letter rfl (t := 11) rfl (pc' := 4) rfl (by first | omega | exact (hM _ _).1 | exact (hM _ _).2) (by first | omega | exact (hM _ _).1 | exact (hM _ _).2) (fun c1 => ?_) (fun c1 => ?_)
  · refine je_ps jb_X11_letter 2 (pc' := 15) (ls' := [_, _]) (st' := [_, _]) rfl ?_
    refine je_icmpgt jb_X11_letter rfl (t := 29) rfl (pc' := 18) rfl (by first | omega | exact (hM _ _).1 | exact (hM _ _).2) (by first | omega | exact (hM _ _).1 | exact (hM _ _).2) (by first | omega | exact (hM _ _).1 | exact (hM _ _).2) (by first | omega | exact (hM _ _).1 | exact (hM _ _).2) (fun c15 => ?_) (fun c15 => ?_)
    · refine je_ps jb_X11_letter 2 (pc' := 32) (ls' := [_, _]) (st' := [_, _]) rfl ?_
      refine je_cvP' jb_X11_letter rfl (pc' := 35) rfl (jh_at (a := 0) rfl) (by rfl) (by first | decide | exact Nat.ble_eq_true_of_le (by omega)) (c_X11_refuse (by omega)) (st' := [_]) rfl ?_
      first | (rw [show aLetter A x = aRef A (-6) from by unfold aLetter; rw [if_neg (by omega), if_pos (by omega)]]; exact je_ret jb_X11_letter rfl (by rfl) ⟨_, _, _, rfl, rfl, I.ref (by omega), kG.ref m _, tG.rfl' T⟩) | (rw [show fRA 72 (aQ A) x = aQ A from if_neg (show ¬ (aQ A).2 < ((72 : Nat) : Int) from cq), jR35_self I.q]; rw [show aLetter A x = aRef A (-6) from by unfold aLetter; rw [if_neg (by omega), if_neg (by omega), if_neg (by omega)]]; exact je_ret jb_X11_letter rfl (by rfl) ⟨_, _, _, rfl, rfl, I.ref (by omega), kG.ref m _, tG.rfl' T⟩)
    · refine je_ps jb_X11_letter 1 (pc' := 19) (ls' := [_, _]) (st' := [_]) rfl ?_
      refine je_get jb_X11_letter rfl (pc' := 22) rfl (jh_at (a := 0) rfl) (by rfl) (by rfl) ?_
      refine je_ps jb_X11_letter 1 (pc' := 23) (ls' := [_, _]) (st' := [_, _]) rfl ?_
      refine je_cvP' jb_X11_letter rfl (pc' := 26) rfl (jh_at (a := 37) rfl) (by rfl) (by first | decide | exact Nat.ble_eq_true_of_le (by omega)) (k35_add I.q hx) (st' := [_]) rfl ?_
      rw [decide_eq_false cq]
      refine je_ifneb jb_X11_letter rfl (t := 36) rfl (pc' := 29) rfl (fun c26 => ?_) (fun c26 => ?_)
      · first | (exfalso; omega) | (cases c26; done) | (exfalso; simp_all; done)
      · refine je_ps jb_X11_letter 2 (pc' := 32) (ls' := [_, _]) (st' := [_, _]) rfl ?_
        refine je_cvP' jb_X11_letter rfl (pc' := 35) rfl (jh_at (a := 0) rfl) (by rfl) (by first | decide | exact Nat.ble_eq_true_of_le (by omega)) (c_X11_refuse (by omega)) (st' := [_]) rfl ?_
        first | (rw [show aLetter A x = aRef A (-6) from by unfold aLetter; rw [if_neg (by omega), if_pos (by omega)]]; exact je_ret jb_X11_letter rfl (by rfl) ⟨_, _, _, rfl, rfl, I.ref (by omega), kG.ref m _, tG.rfl' T⟩) | (rw [show fRA 72 (aQ A) x = aQ A from if_neg (show ¬ (aQ A).2 < ((72 : Nat) : Int) from cq), jR35_self I.q]; rw [show aLetter A x = aRef A (-6) from by unfold aLetter; rw [if_neg (by omega), if_neg (by omega), if_neg (by omega)]]; exact je_ret jb_X11_letter rfl (by rfl) ⟨_, _, _, rfl, rfl, I.ref (by omega), kG.ref m _, tG.rfl' T⟩)
  · refine je_ps jb_X11_letter 2 (pc' := 7) (ls' := [_, _]) (st' := [_, _]) rfl ?_
    refine je_cvP' jb_X11_letter rfl (pc' := 10) rfl (jh_at (a := 0) rfl) (by rfl) (by first | decide | exact Nat.ble_eq_true_of_le (by omega)) (c_X11_refuse (by omega)) (st' := [_]) rfl ?_
    rw [show aLetter A x = aRef A (-4) from by unfold aLetter; rw [if_pos (by omega)]]
    exact je_ret jb_X11_letter rfl (by rfl) ⟨_, _, _, rfl, rfl, I.ref (by omega), kG.ref m _, tG.rfl' T⟩
theorem cl_letter {A : aT} (I : iC A m r T) {x : Int} (hx : -2147483648 ≤ x ∧ x ≤ 2147483647) : jq sc 4 jm_X11_letter [.ref 0, .int (jI x)] (jh m r T) (cQ (aLetter A x) m T) := by
  by_cases cq : (aQ A).2 < 72
  · exact cl_letter_p I cq hx
  · exact cl_letter_q I cq hx
theorem tRep_z {s n k l : Int} {w : wT} (h : fS s n k) (hZ : fZ w.1) : ∀ t, fZ (tRep s n k l w t).2.1
  | 0 => hZ
  | t + 1 => by
    unfold tRep
    split
    · exact fGo_z h (tRep_z h hZ t)
    · exact tRep_z h hZ t
theorem tStep_z {s n k : Int} {q w : wT} (h : fS s n k) (hZ : fZ w.1) (p : Int) : fZ (tStep s n k q w p).2.1 := by
  unfold tStep
  split
  · exact hZ
  · exact tRep_z h hZ _
theorem tS_z {s n k : Int} {q : wT} (h : fS s n k) : ∀ p, fZ (tS s n k q p).1
  | 0 => fun _ _ => rfl
  | p + 1 => tStep_z h (tS_z h p) _
def aTold (A : aT) : aT := if 0 ≤ tStr (aQ A) then A else if tF (aS A) (aN A) (aK A) (aQ A) < (aQ A).2.toNat then A else sAdd A (tS (aS A) (aN A) (aK A) (aQ A) (aQ A).2.toNat)
theorem iC.told {A : aT} (I : iC A m r T) (hc : aC A < 6) : iC (aTold A) (tMem (aS A) (aN A) (aK A) (aQ A) (aC A : Int) m (aC A)) r T ∧ kG m (tMem (aS A) (aN A) (aK A) (aQ A) (aC A : Int) m (aC A)) ∧ aQ (aTold A) = aQ A := by
  have fs := I.fs
  unfold aTold tMem
  by_cases c1 : 0 ≤ tStr (aQ A)
  · rw [if_pos c1, if_pos c1]
    exact ⟨I, kG.rfl' m, rfl⟩
  · rw [if_neg c1, if_neg c1]
    by_cases c2 : tF (aS A) (aN A) (aK A) (aQ A) < (aQ A).2.toNat
    · rw [if_pos c2, if_pos c2]
      exact ⟨I.junk (Or.inl ⟨Nat.le_refl _, hc⟩) (tS_z fs _), (kG.rfl' m).w (by omega) _ _, rfl⟩
    · rw [if_neg c2, if_neg c2]
      have ok := tS_ok (q := aQ A) fs (aQ A).2.toNat
      exact ⟨I.add hc ⟨ok.1, ok.2, tS_z fs _⟩, ((kG.rfl' m).w (by omega) _ _).u (by decide) _, rfl⟩
def aWord (A : aT) : Int × aT := if aC A < 6 then (tAns (aS A) (aN A) (aK A) (aQ A) (aC A : Int), sQ (aTold A) ((aQ A).1, 0)) else aRef A (-6)
theorem cl_word {A : aT} (I : iC A m r T)  : jq sc 8 jm_X11_word [.ref 0] (jh m r T) (cQ (aWord A) m T) := by
  have c6 := I.c6
  have fs := I.fs
  refine je_in jb_X11_word rfl (ls := [_, _, _]) rfl ?_
  refine je_ps jb_X11_word 1 (pc' := 1) (ls' := [_, _, _]) (st' := [_]) rfl ?_
  refine je_get jb_X11_word rfl (pc' := 4) rfl (jh_at (a := 0) rfl) (by rfl) (by rfl) ?_
  refine je_cvP' jb_X11_word rfl (pc' := 7) rfl (jh_at (a := 1) rfl) (by rfl) (by first | decide | exact Nat.ble_eq_true_of_le (by omega)) (k_freeWalk I.c I.c6) (st' := [_]) rfl ?_
  refine je_mv (fun c4 => ?_) (fun c4 => ?_)
  · skip
    refine je_ps jb_X11_word 2 (pc' := 9) (ls' := [_, _, _]) (st' := [_]) rfl ?_
    refine je_ifnonnullN jb_X11_word rfl (t := 19) rfl (pc' := 12) rfl ?_
    refine je_ps jb_X11_word 2 (pc' := 15) (ls' := [_, _, _]) (st' := [_, _]) rfl ?_
    refine je_cvP' jb_X11_word rfl (pc' := 18) rfl (jh_at (a := 0) rfl) (by rfl) (by first | decide | exact Nat.ble_eq_true_of_le (by omega)) (c_X11_refuse (by omega)) (st' := [_]) rfl ?_
    rw [show aWord A = aRef A (-6) from by unfold aWord; rw [if_neg c4]]
    exact je_ret jb_X11_word rfl (by rfl) ⟨_, _, _, rfl, rfl, I.ref (by omega), kG.ref m _, tG.rfl' T⟩
  · skip
    have hc : aC A < 13 := by omega
    have gs := I.str (i := aC A) (jws_6 (by omega))
    have J := I.told c4
    refine je_ps jb_X11_word 2 (pc' := 9) (ls' := [_, _, _]) (st' := [_]) rfl ?_
    refine je_ifnonnullR jb_X11_word rfl (t := 19) rfl (pc' := 12) rfl ?_
    refine je_ps jb_X11_word 2 (pc' := 21) (ls' := [_, _, _]) (st' := [_, _]) rfl ?_
    refine je_cvP' jb_X11_word rfl (pc' := 24) rfl (jh_at (a := 0) rfl) (by rfl) (by first | decide | exact Nat.ble_eq_true_of_le (by omega)) (k_makeTold hc (I.z hc) gs I.q I.qb I.c) (st' := [_]) rfl ?_
    refine je_ps jb_X11_word 1 (pc' := 25) (ls' := [_, _, _]) (st' := []) rfl ?_
    have jq := J.1.q
    rw [J.2.2] at jq
    refine je_ps jb_X11_word 1 (pc' := 26) (ls' := [_, _, _]) (st' := [_]) rfl ?_
    refine je_get jb_X11_word rfl (pc' := 29) rfl (jh_at (a := 0) rfl) (by rfl) (by rfl) ?_
    refine je_cvP' jb_X11_word rfl (pc' := 32) rfl (jh_at (a := 37) rfl) (by rfl) (by first | decide | exact Nat.ble_eq_true_of_le (by omega)) (k35_clear jq) (st' := []) rfl ?_
    refine je_ps jb_X11_word 1 (pc' := 33) (ls' := [_, _, _]) (st' := [_]) rfl ?_
    rw [show aWord A = (tAns (aS A) (aN A) (aK A) (aQ A) (aC A : Int), sQ (aTold A) ((aQ A).1, 0)) from by unfold aWord; rw [if_pos c4]]
    exact je_ret jb_X11_word rfl (by rfl) ⟨_, _, _, rfl, rfl, J.1.r35 _ ⟨Int.le_refl 0, by show (0 : Int) ≤ 72; decide⟩ I.qb, J.2.1.r35 _, tG.rfl' T⟩
theorem kGst (m : Nat → Int → Int) (s n k : Int) (f : Int → Int) : kG m (jU (jSt m 2 s n k) 1 f) := ((kG.rfl' m).u (by decide) _).u (by decide) _
def aStreet (A : aT) (x y z : Int) : Int × aT := if x ≠ 0 ∧ x ≠ 1 then aRef A (-2) else if x = 1 ∧ y < 3 ∨ z < 2 then aRef A (-4) else if x = 1 ∧ 8 < y ∨ 5 < z then aRef A (-6) else ((if x = 1 then y else 25), sSt A x (if x = 1 then y else 25) z)
theorem iC.street {A : aT} (I : iC A m r T) {s n k : Int} (h : fS s n k) {f : Int → Int} (h2 : f 2 = 0) (h4 : f 5 = 0) : iC (sSt A s n k) (jU (jSt m 2 s n k) 1 f) r T := by
  have hne : ∀ b, b ≠ 1 → b ≠ 2 → jU (jSt m 2 s n k) 1 f b = m b := fun b h1 h2 => by
    rw [jU_ne h1]
    unfold jSt
    rw [jU_ne h2]
  obtain ⟨i1, i2', ⟨i3, i4⟩, i5, i6, ⟨q7, i7⟩, ⟨q8, i8⟩, i9, i10⟩ := I
  refine ⟨⟨⟨h, Nat.zero_le _, fun i hi => absurd (show i < 0 from hi) (by omega), Nat.zero_le _, fun i hi => absurd (show i < 0 from hi) (by omega)⟩, i1.2⟩, ⟨?_, by rw [jU_same]; exact h2, fun i hi => absurd (show i < 0 from hi) (by omega), by rw [jU_same]; exact h4, fun i hi => absurd (show i < 0 from hi) (by omega)⟩, ⟨by rw [hne 0 (by omega) (by omega)]; exact i3, fun h => (i4 h).thn (i1.2.1 h).2.1 (fun b _ _ => hne b (by omega) (by omega)) rfl (tK.rfl' T)⟩, fun j hj p hp => ?_, ?_, ⟨q7, ?_, i7.2⟩, ⟨q8, ?_, i8.2⟩, i9, fun j h0 h1 => ?_⟩
  · rw [jU_ne (by decide)]
    unfold jSt
    rw [jU_same]
    exact ⟨rfl, rfl, rfl⟩
  · have w := jw_13 hj
    rw [hne _ (by omega) (by omega)]
    exact i5 j hj p hp
  · unfold jQ35 at *
    rw [hne 38 (by omega) (by omega), hne 37 (by omega) (by omega)]
    exact i6
  · have := i7.1
    unfold jQ37 at *
    rw [hne 40 (by omega) (by omega), hne 39 (by omega) (by omega)]
    exact this
  · have := i8.1
    unfold jQ39 at *
    rw [hne 42 (by omega) (by omega), hne 41 (by omega) (by omega)]
    exact this
  · rw [hne 44 (by omega) (by omega)]
    exact i10 j h0 h1
theorem cl_street {A : aT} (I : iC A m r T) {x y z : Int} (hx : -2147483648 ≤ x ∧ x ≤ 2147483647) (hy : -2147483648 ≤ y ∧ y ≤ 2147483647) (hz : -2147483648 ≤ z ∧ z ≤ 2147483647) : jq sc 4 jm_X11_street [.ref 0, .int (jI x), .int (jI y), .int (jI z)] (jh m r T) (cQ (aStreet A x y z) m T) := by
  have c6 := I.c6
  have fs := I.fs
  refine je_in jb_X11_street rfl (ls := [_, _, _, _]) rfl ?_
  refine je_ps jb_X11_street 1 (pc' := 1) (ls' := [_, _, _, _]) (st' := [_]) rfl ?_
  refine je_ifeq jb_X11_street rfl (t := 16) rfl (pc' := 4) rfl (by first | omega | exact (hM _ _).1 | exact (hM _ _).2) (by first | omega | exact (hM _ _).1 | exact (hM _ _).2) (fun c1 => ?_) (fun c1 => ?_)
  · refine je_ps jb_X11_street 2 (pc' := 18) (ls' := [_, _, _, _]) (st' := [_, _]) rfl ?_
    refine je_icmpne jb_X11_street rfl (t := 26) rfl (pc' := 21) rfl (by first | omega | exact (hM _ _).1 | exact (hM _ _).2) (by first | omega | exact (hM _ _).1 | exact (hM _ _).2) (by first | omega | exact (hM _ _).1 | exact (hM _ _).2) (by first | omega | exact (hM _ _).1 | exact (hM _ _).2) (fun c18 => ?_) (fun c18 => ?_)
    · refine je_ps jb_X11_street 2 (pc' := 28) (ls' := [_, _, _, _]) (st' := [_, _]) rfl ?_
      refine je_icmpge jb_X11_street rfl (t := 38) rfl (pc' := 31) rfl (by first | omega | exact (hM _ _).1 | exact (hM _ _).2) (by first | omega | exact (hM _ _).1 | exact (hM _ _).2) (by first | omega | exact (hM _ _).1 | exact (hM _ _).2) (by first | omega | exact (hM _ _).1 | exact (hM _ _).2) (fun c28 => ?_) (fun c28 => ?_)
      · refine je_ps jb_X11_street 2 (pc' := 40) (ls' := [_, _, _, _]) (st' := [_, _]) rfl ?_
        refine je_icmpne jb_X11_street rfl (t := 49) rfl (pc' := 43) rfl (by first | omega | exact (hM _ _).1 | exact (hM _ _).2) (by first | omega | exact (hM _ _).1 | exact (hM _ _).2) (by first | omega | exact (hM _ _).1 | exact (hM _ _).2) (by first | omega | exact (hM _ _).1 | exact (hM _ _).2) (fun c40 => ?_) (fun c40 => ?_)
        · refine je_ps jb_X11_street 2 (pc' := 51) (ls' := [_, _, _, _]) (st' := [_, _]) rfl ?_
          refine je_icmple jb_X11_street rfl (t := 61) rfl (pc' := 54) rfl (by first | omega | exact (hM _ _).1 | exact (hM _ _).2) (by first | omega | exact (hM _ _).1 | exact (hM _ _).2) (by first | omega | exact (hM _ _).1 | exact (hM _ _).2) (by first | omega | exact (hM _ _).1 | exact (hM _ _).2) (fun c51 => ?_) (fun c51 => ?_)
          · refine je_ps jb_X11_street 1 (pc' := 62) (ls' := [_, _, _, _]) (st' := [_]) rfl ?_
            refine je_get jb_X11_street rfl (pc' := 65) rfl (jh_at (a := 0) rfl) (by rfl) (by rfl) ?_
            refine je_get jb_X11_street rfl (pc' := 68) rfl (jh_at (a := 1) rfl) (by rfl) (by rfl) ?_
            refine je_ps jb_X11_street 3 (pc' := 71) (ls' := [_, _, _, _]) (st' := [_, _, _, _]) rfl ?_
            refine je_icmpne jb_X11_street rfl (t := 78) rfl (pc' := 74) rfl (by first | omega | exact (hM _ _).1 | exact (hM _ _).2) (by first | omega | exact (hM _ _).1 | exact (hM _ _).2) (by first | omega | exact (hM _ _).1 | exact (hM _ _).2) (by first | omega | exact (hM _ _).1 | exact (hM _ _).2) (fun c71 => ?_) (fun c71 => ?_)
            · refine je_ps jb_X11_street 2 (pc' := 81) (ls' := [_, _, _, _]) (st' := [_, _, _, _]) rfl ?_
              refine je_cvP' jb_X11_street rfl (pc' := 84) rfl (jh_at (a := 2) rfl) (by rfl) (by first | decide | exact Nat.ble_eq_true_of_le (by omega)) become_2 (st' := []) rfl ?_
              refine je_ps jb_X11_street 1 (pc' := 85) (ls' := [_, _, _, _]) (st' := [_]) rfl ?_
              refine je_get jb_X11_street rfl (pc' := 88) rfl (jh_at (a := 0) rfl) (by rfl) (by rfl) ?_
              refine je_ps jb_X11_street 1 (pc' := 89) (ls' := [_, _, _, _]) (st' := [_, _]) rfl ?_
              refine je_putI jb_X11_street rfl (pc' := 92) rfl (j := 2) (a := 1) rfl (by rfl) (by rfl) (by rfl) (by rfl) ?_
              refine je_ps jb_X11_street 1 (pc' := 93) (ls' := [_, _, _, _]) (st' := [_]) rfl ?_
              refine je_get jb_X11_street rfl (pc' := 96) rfl (jh_at (a := 0) rfl) (by rfl) (by rfl) ?_
              refine je_ps jb_X11_street 1 (pc' := 97) (ls' := [_, _, _, _]) (st' := [_, _]) rfl ?_
              refine je_putI jb_X11_street rfl (pc' := 100) rfl (j := 5) (a := 1) rfl (by rfl) (by rfl) (by rfl) (by rfl) ?_
              rw [jU_same, jU_jU]
              refine je_ps jb_X11_street 1 (pc' := 101) (ls' := [_, _, _, _]) (st' := [_]) rfl ?_
              refine je_get jb_X11_street rfl (pc' := 104) rfl (jh_at (a := 0) rfl) (by rfl) (by rfl) ?_
              refine je_get jb_X11_street rfl (pc' := 107) rfl (jh_at (a := 1) rfl) (by rfl) (by rfl) ?_
              refine je_get jb_X11_street rfl (pc' := 110) rfl (jh_at (a := 2) rfl) (by rfl) (by rfl) ?_
              first | (exfalso; omega) | (have e3 : (if x = 1 then y else (25 : Int)) = y := if_pos (by omega); rw [show aStreet A x y z = (y, sSt A x y z) from by unfold aStreet; rw [if_neg (by omega), if_neg (by omega), if_neg (by omega), e3]]; exact je_ret jb_X11_street rfl (by rfl) ⟨_, _, _, rfl, rfl, I.street (by unfold fS; omega) rfl rfl, kGst m _ _ _ _, tG.rfl' T⟩) | (have e3 : (if x = 1 then y else (25 : Int)) = 25 := if_neg (by omega); rw [show aStreet A x y z = (25, sSt A x 25 z) from by unfold aStreet; rw [if_neg (by omega), if_neg (by omega), if_neg (by omega), e3]]; exact je_ret jb_X11_street rfl (by rfl) ⟨_, _, _, rfl, rfl, I.street (by unfold fS; omega) rfl rfl, kGst m _ _ _ _, tG.rfl' T⟩)
            · refine je_ps jb_X11_street 3 (pc' := 81) (ls' := [_, _, _, _]) (st' := [_, _, _, _]) rfl ?_
              refine je_cvP' jb_X11_street rfl (pc' := 84) rfl (jh_at (a := 2) rfl) (by rfl) (by first | decide | exact Nat.ble_eq_true_of_le (by omega)) become_2 (st' := []) rfl ?_
              refine je_ps jb_X11_street 1 (pc' := 85) (ls' := [_, _, _, _]) (st' := [_]) rfl ?_
              refine je_get jb_X11_street rfl (pc' := 88) rfl (jh_at (a := 0) rfl) (by rfl) (by rfl) ?_
              refine je_ps jb_X11_street 1 (pc' := 89) (ls' := [_, _, _, _]) (st' := [_, _]) rfl ?_
              refine je_putI jb_X11_street rfl (pc' := 92) rfl (j := 2) (a := 1) rfl (by rfl) (by rfl) (by rfl) (by rfl) ?_
              refine je_ps jb_X11_street 1 (pc' := 93) (ls' := [_, _, _, _]) (st' := [_]) rfl ?_
              refine je_get jb_X11_street rfl (pc' := 96) rfl (jh_at (a := 0) rfl) (by rfl) (by rfl) ?_
              refine je_ps jb_X11_street 1 (pc' := 97) (ls' := [_, _, _, _]) (st' := [_, _]) rfl ?_
              refine je_putI jb_X11_street rfl (pc' := 100) rfl (j := 5) (a := 1) rfl (by rfl) (by rfl) (by rfl) (by rfl) ?_
              rw [jU_same, jU_jU]
              refine je_ps jb_X11_street 1 (pc' := 101) (ls' := [_, _, _, _]) (st' := [_]) rfl ?_
              refine je_get jb_X11_street rfl (pc' := 104) rfl (jh_at (a := 0) rfl) (by rfl) (by rfl) ?_
              refine je_get jb_X11_street rfl (pc' := 107) rfl (jh_at (a := 1) rfl) (by rfl) (by rfl) ?_
              refine je_get jb_X11_street rfl (pc' := 110) rfl (jh_at (a := 2) rfl) (by rfl) (by rfl) ?_
              first | (exfalso; omega) | (have e3 : (if x = 1 then y else (25 : Int)) = y := if_pos (by omega); rw [show aStreet A x y z = (y, sSt A x y z) from by unfold aStreet; rw [if_neg (by omega), if_neg (by omega), if_neg (by omega), e3]]; exact je_ret jb_X11_street rfl (by rfl) ⟨_, _, _, rfl, rfl, I.street (by unfold fS; omega) rfl rfl, kGst m _ _ _ _, tG.rfl' T⟩) | (have e3 : (if x = 1 then y else (25 : Int)) = 25 := if_neg (by omega); rw [show aStreet A x y z = (25, sSt A x 25 z) from by unfold aStreet; rw [if_neg (by omega), if_neg (by omega), if_neg (by omega), e3]]; exact je_ret jb_X11_street rfl (by rfl) ⟨_, _, _, rfl, rfl, I.street (by unfold fS; omega) rfl rfl, kGst m _ _ _ _, tG.rfl' T⟩)
          · refine je_ps jb_X11_street 2 (pc' := 57) (ls' := [_, _, _, _]) (st' := [_, _]) rfl ?_
            refine je_cvP' jb_X11_street rfl (pc' := 60) rfl (jh_at (a := 0) rfl) (by rfl) (by first | decide | exact Nat.ble_eq_true_of_le (by omega)) (c_X11_refuse (by omega)) (st' := [_]) rfl ?_
            rw [show aStreet A x y z = aRef A (-6) from by unfold aStreet; rw [if_neg (by omega), if_neg (by omega), if_pos (by omega)]]
            exact je_ret jb_X11_street rfl (by rfl) ⟨_, _, _, rfl, rfl, I.ref (by omega), kG.ref m _, tG.rfl' T⟩
        · refine je_ps jb_X11_street 2 (pc' := 46) (ls' := [_, _, _, _]) (st' := [_, _]) rfl ?_
          refine je_icmpgt jb_X11_street rfl (t := 54) rfl (pc' := 49) rfl (by first | omega | exact (hM _ _).1 | exact (hM _ _).2) (by first | omega | exact (hM _ _).1 | exact (hM _ _).2) (by first | omega | exact (hM _ _).1 | exact (hM _ _).2) (by first | omega | exact (hM _ _).1 | exact (hM _ _).2) (fun c46 => ?_) (fun c46 => ?_)
          · refine je_ps jb_X11_street 2 (pc' := 57) (ls' := [_, _, _, _]) (st' := [_, _]) rfl ?_
            refine je_cvP' jb_X11_street rfl (pc' := 60) rfl (jh_at (a := 0) rfl) (by rfl) (by first | decide | exact Nat.ble_eq_true_of_le (by omega)) (c_X11_refuse (by omega)) (st' := [_]) rfl ?_
            rw [show aStreet A x y z = aRef A (-6) from by unfold aStreet; rw [if_neg (by omega), if_neg (by omega), if_pos (by omega)]]
            exact je_ret jb_X11_street rfl (by rfl) ⟨_, _, _, rfl, rfl, I.ref (by omega), kG.ref m _, tG.rfl' T⟩
          · refine je_ps jb_X11_street 2 (pc' := 51) (ls' := [_, _, _, _]) (st' := [_, _]) rfl ?_
            refine je_icmple jb_X11_street rfl (t := 61) rfl (pc' := 54) rfl (by first | omega | exact (hM _ _).1 | exact (hM _ _).2) (by first | omega | exact (hM _ _).1 | exact (hM _ _).2) (by first | omega | exact (hM _ _).1 | exact (hM _ _).2) (by first | omega | exact (hM _ _).1 | exact (hM _ _).2) (fun c51 => ?_) (fun c51 => ?_)
            · refine je_ps jb_X11_street 1 (pc' := 62) (ls' := [_, _, _, _]) (st' := [_]) rfl ?_
              refine je_get jb_X11_street rfl (pc' := 65) rfl (jh_at (a := 0) rfl) (by rfl) (by rfl) ?_
              refine je_get jb_X11_street rfl (pc' := 68) rfl (jh_at (a := 1) rfl) (by rfl) (by rfl) ?_
              refine je_ps jb_X11_street 3 (pc' := 71) (ls' := [_, _, _, _]) (st' := [_, _, _, _]) rfl ?_
              refine je_icmpne jb_X11_street rfl (t := 78) rfl (pc' := 74) rfl (by first | omega | exact (hM _ _).1 | exact (hM _ _).2) (by first | omega | exact (hM _ _).1 | exact (hM _ _).2) (by first | omega | exact (hM _ _).1 | exact (hM _ _).2) (by first | omega | exact (hM _ _).1 | exact (hM _ _).2) (fun c71 => ?_) (fun c71 => ?_)
              · refine je_ps jb_X11_street 2 (pc' := 81) (ls' := [_, _, _, _]) (st' := [_, _, _, _]) rfl ?_
                refine je_cvP' jb_X11_street rfl (pc' := 84) rfl (jh_at (a := 2) rfl) (by rfl) (by first | decide | exact Nat.ble_eq_true_of_le (by omega)) become_2 (st' := []) rfl ?_
                refine je_ps jb_X11_street 1 (pc' := 85) (ls' := [_, _, _, _]) (st' := [_]) rfl ?_
                refine je_get jb_X11_street rfl (pc' := 88) rfl (jh_at (a := 0) rfl) (by rfl) (by rfl) ?_
                refine je_ps jb_X11_street 1 (pc' := 89) (ls' := [_, _, _, _]) (st' := [_, _]) rfl ?_
                refine je_putI jb_X11_street rfl (pc' := 92) rfl (j := 2) (a := 1) rfl (by rfl) (by rfl) (by rfl) (by rfl) ?_
                refine je_ps jb_X11_street 1 (pc' := 93) (ls' := [_, _, _, _]) (st' := [_]) rfl ?_
                refine je_get jb_X11_street rfl (pc' := 96) rfl (jh_at (a := 0) rfl) (by rfl) (by rfl) ?_
                refine je_ps jb_X11_street 1 (pc' := 97) (ls' := [_, _, _, _]) (st' := [_, _]) rfl ?_
                refine je_putI jb_X11_street rfl (pc' := 100) rfl (j := 5) (a := 1) rfl (by rfl) (by rfl) (by rfl) (by rfl) ?_
                rw [jU_same, jU_jU]
                refine je_ps jb_X11_street 1 (pc' := 101) (ls' := [_, _, _, _]) (st' := [_]) rfl ?_
                refine je_get jb_X11_street rfl (pc' := 104) rfl (jh_at (a := 0) rfl) (by rfl) (by rfl) ?_
                refine je_get jb_X11_street rfl (pc' := 107) rfl (jh_at (a := 1) rfl) (by rfl) (by rfl) ?_
                refine je_get jb_X11_street rfl (pc' := 110) rfl (jh_at (a := 2) rfl) (by rfl) (by rfl) ?_
                first | (exfalso; omega) | (have e3 : (if x = 1 then y else (25 : Int)) = y := if_pos (by omega); rw [show aStreet A x y z = (y, sSt A x y z) from by unfold aStreet; rw [if_neg (by omega), if_neg (by omega), if_neg (by omega), e3]]; exact je_ret jb_X11_street rfl (by rfl) ⟨_, _, _, rfl, rfl, I.street (by unfold fS; omega) rfl rfl, kGst m _ _ _ _, tG.rfl' T⟩) | (have e3 : (if x = 1 then y else (25 : Int)) = 25 := if_neg (by omega); rw [show aStreet A x y z = (25, sSt A x 25 z) from by unfold aStreet; rw [if_neg (by omega), if_neg (by omega), if_neg (by omega), e3]]; exact je_ret jb_X11_street rfl (by rfl) ⟨_, _, _, rfl, rfl, I.street (by unfold fS; omega) rfl rfl, kGst m _ _ _ _, tG.rfl' T⟩)
              · refine je_ps jb_X11_street 3 (pc' := 81) (ls' := [_, _, _, _]) (st' := [_, _, _, _]) rfl ?_
                refine je_cvP' jb_X11_street rfl (pc' := 84) rfl (jh_at (a := 2) rfl) (by rfl) (by first | decide | exact Nat.ble_eq_true_of_le (by omega)) become_2 (st' := []) rfl ?_
                refine je_ps jb_X11_street 1 (pc' := 85) (ls' := [_, _, _, _]) (st' := [_]) rfl ?_
                refine je_get jb_X11_street rfl (pc' := 88) rfl (jh_at (a := 0) rfl) (by rfl) (by rfl) ?_
                refine je_ps jb_X11_street 1 (pc' := 89) (ls' := [_, _, _, _]) (st' := [_, _]) rfl ?_
                refine je_putI jb_X11_street rfl (pc' := 92) rfl (j := 2) (a := 1) rfl (by rfl) (by rfl) (by rfl) (by rfl) ?_
                refine je_ps jb_X11_street 1 (pc' := 93) (ls' := [_, _, _, _]) (st' := [_]) rfl ?_
                refine je_get jb_X11_street rfl (pc' := 96) rfl (jh_at (a := 0) rfl) (by rfl) (by rfl) ?_
                refine je_ps jb_X11_street 1 (pc' := 97) (ls' := [_, _, _, _]) (st' := [_, _]) rfl ?_
                refine je_putI jb_X11_street rfl (pc' := 100) rfl (j := 5) (a := 1) rfl (by rfl) (by rfl) (by rfl) (by rfl) ?_
                rw [jU_same, jU_jU]
                refine je_ps jb_X11_street 1 (pc' := 101) (ls' := [_, _, _, _]) (st' := [_]) rfl ?_
                refine je_get jb_X11_street rfl (pc' := 104) rfl (jh_at (a := 0) rfl) (by rfl) (by rfl) ?_
                refine je_get jb_X11_street rfl (pc' := 107) rfl (jh_at (a := 1) rfl) (by rfl) (by rfl) ?_
                refine je_get jb_X11_street rfl (pc' := 110) rfl (jh_at (a := 2) rfl) (by rfl) (by rfl) ?_
                first | (exfalso; omega) | (have e3 : (if x = 1 then y else (25 : Int)) = y := if_pos (by omega); rw [show aStreet A x y z = (y, sSt A x y z) from by unfold aStreet; rw [if_neg (by omega), if_neg (by omega), if_neg (by omega), e3]]; exact je_ret jb_X11_street rfl (by rfl) ⟨_, _, _, rfl, rfl, I.street (by unfold fS; omega) rfl rfl, kGst m _ _ _ _, tG.rfl' T⟩) | (have e3 : (if x = 1 then y else (25 : Int)) = 25 := if_neg (by omega); rw [show aStreet A x y z = (25, sSt A x 25 z) from by unfold aStreet; rw [if_neg (by omega), if_neg (by omega), if_neg (by omega), e3]]; exact je_ret jb_X11_street rfl (by rfl) ⟨_, _, _, rfl, rfl, I.street (by unfold fS; omega) rfl rfl, kGst m _ _ _ _, tG.rfl' T⟩)
            · refine je_ps jb_X11_street 2 (pc' := 57) (ls' := [_, _, _, _]) (st' := [_, _]) rfl ?_
              refine je_cvP' jb_X11_street rfl (pc' := 60) rfl (jh_at (a := 0) rfl) (by rfl) (by first | decide | exact Nat.ble_eq_true_of_le (by omega)) (c_X11_refuse (by omega)) (st' := [_]) rfl ?_
              rw [show aStreet A x y z = aRef A (-6) from by unfold aStreet; rw [if_neg (by omega), if_neg (by omega), if_pos (by omega)]]
              exact je_ret jb_X11_street rfl (by rfl) ⟨_, _, _, rfl, rfl, I.ref (by omega), kG.ref m _, tG.rfl' T⟩
      · refine je_ps jb_X11_street 2 (pc' := 34) (ls' := [_, _, _, _]) (st' := [_, _]) rfl ?_
        refine je_cvP' jb_X11_street rfl (pc' := 37) rfl (jh_at (a := 0) rfl) (by rfl) (by first | decide | exact Nat.ble_eq_true_of_le (by omega)) (c_X11_refuse (by omega)) (st' := [_]) rfl ?_
        rw [show aStreet A x y z = aRef A (-4) from by unfold aStreet; rw [if_neg (by omega), if_pos (by omega)]]
        exact je_ret jb_X11_street rfl (by rfl) ⟨_, _, _, rfl, rfl, I.ref (by omega), kG.ref m _, tG.rfl' T⟩
    · refine je_ps jb_X11_street 2 (pc' := 23) (ls' := [_, _, _, _]) (st' := [_, _]) rfl ?_
      refine je_icmplt jb_X11_street rfl (t := 31) rfl (pc' := 26) rfl (by first | omega | exact (hM _ _).1 | exact (hM _ _).2) (by first | omega | exact (hM _ _).1 | exact (hM _ _).2) (by first | omega | exact (hM _ _).1 | exact (hM _ _).2) (by first | omega | exact (hM _ _).1 | exact (hM _ _).2) (fun c23 => ?_) (fun c23 => ?_)
      · refine je_ps jb_X11_street 2 (pc' := 34) (ls' := [_, _, _, _]) (st' := [_, _]) rfl ?_
        refine je_cvP' jb_X11_street rfl (pc' := 37) rfl (jh_at (a := 0) rfl) (by rfl) (by first | decide | exact Nat.ble_eq_true_of_le (by omega)) (c_X11_refuse (by omega)) (st' := [_]) rfl ?_
        rw [show aStreet A x y z = aRef A (-4) from by unfold aStreet; rw [if_neg (by omega), if_pos (by omega)]]
        exact je_ret jb_X11_street rfl (by rfl) ⟨_, _, _, rfl, rfl, I.ref (by omega), kG.ref m _, tG.rfl' T⟩
      · refine je_ps jb_X11_street 2 (pc' := 28) (ls' := [_, _, _, _]) (st' := [_, _]) rfl ?_
        refine je_icmpge jb_X11_street rfl (t := 38) rfl (pc' := 31) rfl (by first | omega | exact (hM _ _).1 | exact (hM _ _).2) (by first | omega | exact (hM _ _).1 | exact (hM _ _).2) (by first | omega | exact (hM _ _).1 | exact (hM _ _).2) (by first | omega | exact (hM _ _).1 | exact (hM _ _).2) (fun c28 => ?_) (fun c28 => ?_)
        · refine je_ps jb_X11_street 2 (pc' := 40) (ls' := [_, _, _, _]) (st' := [_, _]) rfl ?_
          refine je_icmpne jb_X11_street rfl (t := 49) rfl (pc' := 43) rfl (by first | omega | exact (hM _ _).1 | exact (hM _ _).2) (by first | omega | exact (hM _ _).1 | exact (hM _ _).2) (by first | omega | exact (hM _ _).1 | exact (hM _ _).2) (by first | omega | exact (hM _ _).1 | exact (hM _ _).2) (fun c40 => ?_) (fun c40 => ?_)
          · refine je_ps jb_X11_street 2 (pc' := 51) (ls' := [_, _, _, _]) (st' := [_, _]) rfl ?_
            refine je_icmple jb_X11_street rfl (t := 61) rfl (pc' := 54) rfl (by first | omega | exact (hM _ _).1 | exact (hM _ _).2) (by first | omega | exact (hM _ _).1 | exact (hM _ _).2) (by first | omega | exact (hM _ _).1 | exact (hM _ _).2) (by first | omega | exact (hM _ _).1 | exact (hM _ _).2) (fun c51 => ?_) (fun c51 => ?_)
            · refine je_ps jb_X11_street 1 (pc' := 62) (ls' := [_, _, _, _]) (st' := [_]) rfl ?_
              refine je_get jb_X11_street rfl (pc' := 65) rfl (jh_at (a := 0) rfl) (by rfl) (by rfl) ?_
              refine je_get jb_X11_street rfl (pc' := 68) rfl (jh_at (a := 1) rfl) (by rfl) (by rfl) ?_
              refine je_ps jb_X11_street 3 (pc' := 71) (ls' := [_, _, _, _]) (st' := [_, _, _, _]) rfl ?_
              refine je_icmpne jb_X11_street rfl (t := 78) rfl (pc' := 74) rfl (by first | omega | exact (hM _ _).1 | exact (hM _ _).2) (by first | omega | exact (hM _ _).1 | exact (hM _ _).2) (by first | omega | exact (hM _ _).1 | exact (hM _ _).2) (by first | omega | exact (hM _ _).1 | exact (hM _ _).2) (fun c71 => ?_) (fun c71 => ?_)
              · refine je_ps jb_X11_street 2 (pc' := 81) (ls' := [_, _, _, _]) (st' := [_, _, _, _]) rfl ?_
                refine je_cvP' jb_X11_street rfl (pc' := 84) rfl (jh_at (a := 2) rfl) (by rfl) (by first | decide | exact Nat.ble_eq_true_of_le (by omega)) become_2 (st' := []) rfl ?_
                refine je_ps jb_X11_street 1 (pc' := 85) (ls' := [_, _, _, _]) (st' := [_]) rfl ?_
                refine je_get jb_X11_street rfl (pc' := 88) rfl (jh_at (a := 0) rfl) (by rfl) (by rfl) ?_
                refine je_ps jb_X11_street 1 (pc' := 89) (ls' := [_, _, _, _]) (st' := [_, _]) rfl ?_
                refine je_putI jb_X11_street rfl (pc' := 92) rfl (j := 2) (a := 1) rfl (by rfl) (by rfl) (by rfl) (by rfl) ?_
                refine je_ps jb_X11_street 1 (pc' := 93) (ls' := [_, _, _, _]) (st' := [_]) rfl ?_
                refine je_get jb_X11_street rfl (pc' := 96) rfl (jh_at (a := 0) rfl) (by rfl) (by rfl) ?_
                refine je_ps jb_X11_street 1 (pc' := 97) (ls' := [_, _, _, _]) (st' := [_, _]) rfl ?_
                refine je_putI jb_X11_street rfl (pc' := 100) rfl (j := 5) (a := 1) rfl (by rfl) (by rfl) (by rfl) (by rfl) ?_
                rw [jU_same, jU_jU]
                refine je_ps jb_X11_street 1 (pc' := 101) (ls' := [_, _, _, _]) (st' := [_]) rfl ?_
                refine je_get jb_X11_street rfl (pc' := 104) rfl (jh_at (a := 0) rfl) (by rfl) (by rfl) ?_
                refine je_get jb_X11_street rfl (pc' := 107) rfl (jh_at (a := 1) rfl) (by rfl) (by rfl) ?_
                refine je_get jb_X11_street rfl (pc' := 110) rfl (jh_at (a := 2) rfl) (by rfl) (by rfl) ?_
                first | (exfalso; omega) | (have e3 : (if x = 1 then y else (25 : Int)) = y := if_pos (by omega); rw [show aStreet A x y z = (y, sSt A x y z) from by unfold aStreet; rw [if_neg (by omega), if_neg (by omega), if_neg (by omega), e3]]; exact je_ret jb_X11_street rfl (by rfl) ⟨_, _, _, rfl, rfl, I.street (by unfold fS; omega) rfl rfl, kGst m _ _ _ _, tG.rfl' T⟩) | (have e3 : (if x = 1 then y else (25 : Int)) = 25 := if_neg (by omega); rw [show aStreet A x y z = (25, sSt A x 25 z) from by unfold aStreet; rw [if_neg (by omega), if_neg (by omega), if_neg (by omega), e3]]; exact je_ret jb_X11_street rfl (by rfl) ⟨_, _, _, rfl, rfl, I.street (by unfold fS; omega) rfl rfl, kGst m _ _ _ _, tG.rfl' T⟩)
              · refine je_ps jb_X11_street 3 (pc' := 81) (ls' := [_, _, _, _]) (st' := [_, _, _, _]) rfl ?_
                refine je_cvP' jb_X11_street rfl (pc' := 84) rfl (jh_at (a := 2) rfl) (by rfl) (by first | decide | exact Nat.ble_eq_true_of_le (by omega)) become_2 (st' := []) rfl ?_
                refine je_ps jb_X11_street 1 (pc' := 85) (ls' := [_, _, _, _]) (st' := [_]) rfl ?_
                refine je_get jb_X11_street rfl (pc' := 88) rfl (jh_at (a := 0) rfl) (by rfl) (by rfl) ?_
                refine je_ps jb_X11_street 1 (pc' := 89) (ls' := [_, _, _, _]) (st' := [_, _]) rfl ?_
                refine je_putI jb_X11_street rfl (pc' := 92) rfl (j := 2) (a := 1) rfl (by rfl) (by rfl) (by rfl) (by rfl) ?_
                refine je_ps jb_X11_street 1 (pc' := 93) (ls' := [_, _, _, _]) (st' := [_]) rfl ?_
                refine je_get jb_X11_street rfl (pc' := 96) rfl (jh_at (a := 0) rfl) (by rfl) (by rfl) ?_
                refine je_ps jb_X11_street 1 (pc' := 97) (ls' := [_, _, _, _]) (st' := [_, _]) rfl ?_
                refine je_putI jb_X11_street rfl (pc' := 100) rfl (j := 5) (a := 1) rfl (by rfl) (by rfl) (by rfl) (by rfl) ?_
                rw [jU_same, jU_jU]
                refine je_ps jb_X11_street 1 (pc' := 101) (ls' := [_, _, _, _]) (st' := [_]) rfl ?_
                refine je_get jb_X11_street rfl (pc' := 104) rfl (jh_at (a := 0) rfl) (by rfl) (by rfl) ?_
                refine je_get jb_X11_street rfl (pc' := 107) rfl (jh_at (a := 1) rfl) (by rfl) (by rfl) ?_
                refine je_get jb_X11_street rfl (pc' := 110) rfl (jh_at (a := 2) rfl) (by rfl) (by rfl) ?_
                first | (exfalso; omega) | (have e3 : (if x = 1 then y else (25 : Int)) = y := if_pos (by omega); rw [show aStreet A x y z = (y, sSt A x y z) from by unfold aStreet; rw [if_neg (by omega), if_neg (by omega), if_neg (by omega), e3]]; exact je_ret jb_X11_street rfl (by rfl) ⟨_, _, _, rfl, rfl, I.street (by unfold fS; omega) rfl rfl, kGst m _ _ _ _, tG.rfl' T⟩) | (have e3 : (if x = 1 then y else (25 : Int)) = 25 := if_neg (by omega); rw [show aStreet A x y z = (25, sSt A x 25 z) from by unfold aStreet; rw [if_neg (by omega), if_neg (by omega), if_neg (by omega), e3]]; exact je_ret jb_X11_street rfl (by rfl) ⟨_, _, _, rfl, rfl, I.street (by unfold fS; omega) rfl rfl, kGst m _ _ _ _, tG.rfl' T⟩)
            · refine je_ps jb_X11_street 2 (pc' := 57) (ls' := [_, _, _, _]) (st' := [_, _]) rfl ?_
              refine je_cvP' jb_X11_street rfl (pc' := 60) rfl (jh_at (a := 0) rfl) (by rfl) (by first | decide | exact Nat.ble_eq_true_of_le (by omega)) (c_X11_refuse (by omega)) (st' := [_]) rfl ?_
              rw [show aStreet A x y z = aRef A (-6) from by unfold aStreet; rw [if_neg (by omega), if_neg (by omega), if_pos (by omega)]]
              exact je_ret jb_X11_street rfl (by rfl) ⟨_, _, _, rfl, rfl, I.ref (by omega), kG.ref m _, tG.rfl' T⟩
          · refine je_ps jb_X11_street 2 (pc' := 46) (ls' := [_, _, _, _]) (st' := [_, _]) rfl ?_
            refine je_icmpgt jb_X11_street rfl (t := 54) rfl (pc' := 49) rfl (by first | omega | exact (hM _ _).1 | exact (hM _ _).2) (by first | omega | exact (hM _ _).1 | exact (hM _ _).2) (by first | omega | exact (hM _ _).1 | exact (hM _ _).2) (by first | omega | exact (hM _ _).1 | exact (hM _ _).2) (fun c46 => ?_) (fun c46 => ?_)
            · refine je_ps jb_X11_street 2 (pc' := 57) (ls' := [_, _, _, _]) (st' := [_, _]) rfl ?_
              refine je_cvP' jb_X11_street rfl (pc' := 60) rfl (jh_at (a := 0) rfl) (by rfl) (by first | decide | exact Nat.ble_eq_true_of_le (by omega)) (c_X11_refuse (by omega)) (st' := [_]) rfl ?_
              rw [show aStreet A x y z = aRef A (-6) from by unfold aStreet; rw [if_neg (by omega), if_neg (by omega), if_pos (by omega)]]
              exact je_ret jb_X11_street rfl (by rfl) ⟨_, _, _, rfl, rfl, I.ref (by omega), kG.ref m _, tG.rfl' T⟩
            · refine je_ps jb_X11_street 2 (pc' := 51) (ls' := [_, _, _, _]) (st' := [_, _]) rfl ?_
              refine je_icmple jb_X11_street rfl (t := 61) rfl (pc' := 54) rfl (by first | omega | exact (hM _ _).1 | exact (hM _ _).2) (by first | omega | exact (hM _ _).1 | exact (hM _ _).2) (by first | omega | exact (hM _ _).1 | exact (hM _ _).2) (by first | omega | exact (hM _ _).1 | exact (hM _ _).2) (fun c51 => ?_) (fun c51 => ?_)
              · refine je_ps jb_X11_street 1 (pc' := 62) (ls' := [_, _, _, _]) (st' := [_]) rfl ?_
                refine je_get jb_X11_street rfl (pc' := 65) rfl (jh_at (a := 0) rfl) (by rfl) (by rfl) ?_
                refine je_get jb_X11_street rfl (pc' := 68) rfl (jh_at (a := 1) rfl) (by rfl) (by rfl) ?_
                refine je_ps jb_X11_street 3 (pc' := 71) (ls' := [_, _, _, _]) (st' := [_, _, _, _]) rfl ?_
                refine je_icmpne jb_X11_street rfl (t := 78) rfl (pc' := 74) rfl (by first | omega | exact (hM _ _).1 | exact (hM _ _).2) (by first | omega | exact (hM _ _).1 | exact (hM _ _).2) (by first | omega | exact (hM _ _).1 | exact (hM _ _).2) (by first | omega | exact (hM _ _).1 | exact (hM _ _).2) (fun c71 => ?_) (fun c71 => ?_)
                · refine je_ps jb_X11_street 2 (pc' := 81) (ls' := [_, _, _, _]) (st' := [_, _, _, _]) rfl ?_
                  refine je_cvP' jb_X11_street rfl (pc' := 84) rfl (jh_at (a := 2) rfl) (by rfl) (by first | decide | exact Nat.ble_eq_true_of_le (by omega)) become_2 (st' := []) rfl ?_
                  refine je_ps jb_X11_street 1 (pc' := 85) (ls' := [_, _, _, _]) (st' := [_]) rfl ?_
                  refine je_get jb_X11_street rfl (pc' := 88) rfl (jh_at (a := 0) rfl) (by rfl) (by rfl) ?_
                  refine je_ps jb_X11_street 1 (pc' := 89) (ls' := [_, _, _, _]) (st' := [_, _]) rfl ?_
                  refine je_putI jb_X11_street rfl (pc' := 92) rfl (j := 2) (a := 1) rfl (by rfl) (by rfl) (by rfl) (by rfl) ?_
                  refine je_ps jb_X11_street 1 (pc' := 93) (ls' := [_, _, _, _]) (st' := [_]) rfl ?_
                  refine je_get jb_X11_street rfl (pc' := 96) rfl (jh_at (a := 0) rfl) (by rfl) (by rfl) ?_
                  refine je_ps jb_X11_street 1 (pc' := 97) (ls' := [_, _, _, _]) (st' := [_, _]) rfl ?_
                  refine je_putI jb_X11_street rfl (pc' := 100) rfl (j := 5) (a := 1) rfl (by rfl) (by rfl) (by rfl) (by rfl) ?_
                  rw [jU_same, jU_jU]
                  refine je_ps jb_X11_street 1 (pc' := 101) (ls' := [_, _, _, _]) (st' := [_]) rfl ?_
                  refine je_get jb_X11_street rfl (pc' := 104) rfl (jh_at (a := 0) rfl) (by rfl) (by rfl) ?_
                  refine je_get jb_X11_street rfl (pc' := 107) rfl (jh_at (a := 1) rfl) (by rfl) (by rfl) ?_
                  refine je_get jb_X11_street rfl (pc' := 110) rfl (jh_at (a := 2) rfl) (by rfl) (by rfl) ?_
                  first | (exfalso; omega) | (have e3 : (if x = 1 then y else (25 : Int)) = y := if_pos (by omega); rw [show aStreet A x y z = (y, sSt A x y z) from by unfold aStreet; rw [if_neg (by omega), if_neg (by omega), if_neg (by omega), e3]]; exact je_ret jb_X11_street rfl (by rfl) ⟨_, _, _, rfl, rfl, I.street (by unfold fS; omega) rfl rfl, kGst m _ _ _ _, tG.rfl' T⟩) | (have e3 : (if x = 1 then y else (25 : Int)) = 25 := if_neg (by omega); rw [show aStreet A x y z = (25, sSt A x 25 z) from by unfold aStreet; rw [if_neg (by omega), if_neg (by omega), if_neg (by omega), e3]]; exact je_ret jb_X11_street rfl (by rfl) ⟨_, _, _, rfl, rfl, I.street (by unfold fS; omega) rfl rfl, kGst m _ _ _ _, tG.rfl' T⟩)
                · refine je_ps jb_X11_street 3 (pc' := 81) (ls' := [_, _, _, _]) (st' := [_, _, _, _]) rfl ?_
                  refine je_cvP' jb_X11_street rfl (pc' := 84) rfl (jh_at (a := 2) rfl) (by rfl) (by first | decide | exact Nat.ble_eq_true_of_le (by omega)) become_2 (st' := []) rfl ?_
                  refine je_ps jb_X11_street 1 (pc' := 85) (ls' := [_, _, _, _]) (st' := [_]) rfl ?_
                  refine je_get jb_X11_street rfl (pc' := 88) rfl (jh_at (a := 0) rfl) (by rfl) (by rfl) ?_
                  refine je_ps jb_X11_street 1 (pc' := 89) (ls' := [_, _, _, _]) (st' := [_, _]) rfl ?_
                  refine je_putI jb_X11_street rfl (pc' := 92) rfl (j := 2) (a := 1) rfl (by rfl) (by rfl) (by rfl) (by rfl) ?_
                  refine je_ps jb_X11_street 1 (pc' := 93) (ls' := [_, _, _, _]) (st' := [_]) rfl ?_
                  refine je_get jb_X11_street rfl (pc' := 96) rfl (jh_at (a := 0) rfl) (by rfl) (by rfl) ?_
                  refine je_ps jb_X11_street 1 (pc' := 97) (ls' := [_, _, _, _]) (st' := [_, _]) rfl ?_
                  refine je_putI jb_X11_street rfl (pc' := 100) rfl (j := 5) (a := 1) rfl (by rfl) (by rfl) (by rfl) (by rfl) ?_
                  rw [jU_same, jU_jU]
                  refine je_ps jb_X11_street 1 (pc' := 101) (ls' := [_, _, _, _]) (st' := [_]) rfl ?_
                  refine je_get jb_X11_street rfl (pc' := 104) rfl (jh_at (a := 0) rfl) (by rfl) (by rfl) ?_
                  refine je_get jb_X11_street rfl (pc' := 107) rfl (jh_at (a := 1) rfl) (by rfl) (by rfl) ?_
                  refine je_get jb_X11_street rfl (pc' := 110) rfl (jh_at (a := 2) rfl) (by rfl) (by rfl) ?_
                  first | (exfalso; omega) | (have e3 : (if x = 1 then y else (25 : Int)) = y := if_pos (by omega); rw [show aStreet A x y z = (y, sSt A x y z) from by unfold aStreet; rw [if_neg (by omega), if_neg (by omega), if_neg (by omega), e3]]; exact je_ret jb_X11_street rfl (by rfl) ⟨_, _, _, rfl, rfl, I.street (by unfold fS; omega) rfl rfl, kGst m _ _ _ _, tG.rfl' T⟩) | (have e3 : (if x = 1 then y else (25 : Int)) = 25 := if_neg (by omega); rw [show aStreet A x y z = (25, sSt A x 25 z) from by unfold aStreet; rw [if_neg (by omega), if_neg (by omega), if_neg (by omega), e3]]; exact je_ret jb_X11_street rfl (by rfl) ⟨_, _, _, rfl, rfl, I.street (by unfold fS; omega) rfl rfl, kGst m _ _ _ _, tG.rfl' T⟩)
              · refine je_ps jb_X11_street 2 (pc' := 57) (ls' := [_, _, _, _]) (st' := [_, _]) rfl ?_
                refine je_cvP' jb_X11_street rfl (pc' := 60) rfl (jh_at (a := 0) rfl) (by rfl) (by first | decide | exact Nat.ble_eq_true_of_le (by omega)) (c_X11_refuse (by omega)) (st' := [_]) rfl ?_
                rw [show aStreet A x y z = aRef A (-6) from by unfold aStreet; rw [if_neg (by omega), if_neg (by omega), if_pos (by omega)]]
                exact je_ret jb_X11_street rfl (by rfl) ⟨_, _, _, rfl, rfl, I.ref (by omega), kG.ref m _, tG.rfl' T⟩
        · refine je_ps jb_X11_street 2 (pc' := 34) (ls' := [_, _, _, _]) (st' := [_, _]) rfl ?_
          refine je_cvP' jb_X11_street rfl (pc' := 37) rfl (jh_at (a := 0) rfl) (by rfl) (by first | decide | exact Nat.ble_eq_true_of_le (by omega)) (c_X11_refuse (by omega)) (st' := [_]) rfl ?_
          rw [show aStreet A x y z = aRef A (-4) from by unfold aStreet; rw [if_neg (by omega), if_pos (by omega)]]
          exact je_ret jb_X11_street rfl (by rfl) ⟨_, _, _, rfl, rfl, I.ref (by omega), kG.ref m _, tG.rfl' T⟩
  · refine je_ps jb_X11_street 2 (pc' := 6) (ls' := [_, _, _, _]) (st' := [_, _]) rfl ?_
    refine je_icmpeq jb_X11_street rfl (t := 16) rfl (pc' := 9) rfl (by first | omega | exact (hM _ _).1 | exact (hM _ _).2) (by first | omega | exact (hM _ _).1 | exact (hM _ _).2) (by first | omega | exact (hM _ _).1 | exact (hM _ _).2) (by first | omega | exact (hM _ _).1 | exact (hM _ _).2) (fun c6 => ?_) (fun c6 => ?_)
    · refine je_ps jb_X11_street 2 (pc' := 18) (ls' := [_, _, _, _]) (st' := [_, _]) rfl ?_
      refine je_icmpne jb_X11_street rfl (t := 26) rfl (pc' := 21) rfl (by first | omega | exact (hM _ _).1 | exact (hM _ _).2) (by first | omega | exact (hM _ _).1 | exact (hM _ _).2) (by first | omega | exact (hM _ _).1 | exact (hM _ _).2) (by first | omega | exact (hM _ _).1 | exact (hM _ _).2) (fun c18 => ?_) (fun c18 => ?_)
      · refine je_ps jb_X11_street 2 (pc' := 28) (ls' := [_, _, _, _]) (st' := [_, _]) rfl ?_
        refine je_icmpge jb_X11_street rfl (t := 38) rfl (pc' := 31) rfl (by first | omega | exact (hM _ _).1 | exact (hM _ _).2) (by first | omega | exact (hM _ _).1 | exact (hM _ _).2) (by first | omega | exact (hM _ _).1 | exact (hM _ _).2) (by first | omega | exact (hM _ _).1 | exact (hM _ _).2) (fun c28 => ?_) (fun c28 => ?_)
        · refine je_ps jb_X11_street 2 (pc' := 40) (ls' := [_, _, _, _]) (st' := [_, _]) rfl ?_
          refine je_icmpne jb_X11_street rfl (t := 49) rfl (pc' := 43) rfl (by first | omega | exact (hM _ _).1 | exact (hM _ _).2) (by first | omega | exact (hM _ _).1 | exact (hM _ _).2) (by first | omega | exact (hM _ _).1 | exact (hM _ _).2) (by first | omega | exact (hM _ _).1 | exact (hM _ _).2) (fun c40 => ?_) (fun c40 => ?_)
          · refine je_ps jb_X11_street 2 (pc' := 51) (ls' := [_, _, _, _]) (st' := [_, _]) rfl ?_
            refine je_icmple jb_X11_street rfl (t := 61) rfl (pc' := 54) rfl (by first | omega | exact (hM _ _).1 | exact (hM _ _).2) (by first | omega | exact (hM _ _).1 | exact (hM _ _).2) (by first | omega | exact (hM _ _).1 | exact (hM _ _).2) (by first | omega | exact (hM _ _).1 | exact (hM _ _).2) (fun c51 => ?_) (fun c51 => ?_)
            · refine je_ps jb_X11_street 1 (pc' := 62) (ls' := [_, _, _, _]) (st' := [_]) rfl ?_
              refine je_get jb_X11_street rfl (pc' := 65) rfl (jh_at (a := 0) rfl) (by rfl) (by rfl) ?_
              refine je_get jb_X11_street rfl (pc' := 68) rfl (jh_at (a := 1) rfl) (by rfl) (by rfl) ?_
              refine je_ps jb_X11_street 3 (pc' := 71) (ls' := [_, _, _, _]) (st' := [_, _, _, _]) rfl ?_
              refine je_icmpne jb_X11_street rfl (t := 78) rfl (pc' := 74) rfl (by first | omega | exact (hM _ _).1 | exact (hM _ _).2) (by first | omega | exact (hM _ _).1 | exact (hM _ _).2) (by first | omega | exact (hM _ _).1 | exact (hM _ _).2) (by first | omega | exact (hM _ _).1 | exact (hM _ _).2) (fun c71 => ?_) (fun c71 => ?_)
              · refine je_ps jb_X11_street 2 (pc' := 81) (ls' := [_, _, _, _]) (st' := [_, _, _, _]) rfl ?_
                refine je_cvP' jb_X11_street rfl (pc' := 84) rfl (jh_at (a := 2) rfl) (by rfl) (by first | decide | exact Nat.ble_eq_true_of_le (by omega)) become_2 (st' := []) rfl ?_
                refine je_ps jb_X11_street 1 (pc' := 85) (ls' := [_, _, _, _]) (st' := [_]) rfl ?_
                refine je_get jb_X11_street rfl (pc' := 88) rfl (jh_at (a := 0) rfl) (by rfl) (by rfl) ?_
                refine je_ps jb_X11_street 1 (pc' := 89) (ls' := [_, _, _, _]) (st' := [_, _]) rfl ?_
                refine je_putI jb_X11_street rfl (pc' := 92) rfl (j := 2) (a := 1) rfl (by rfl) (by rfl) (by rfl) (by rfl) ?_
                refine je_ps jb_X11_street 1 (pc' := 93) (ls' := [_, _, _, _]) (st' := [_]) rfl ?_
                refine je_get jb_X11_street rfl (pc' := 96) rfl (jh_at (a := 0) rfl) (by rfl) (by rfl) ?_
                refine je_ps jb_X11_street 1 (pc' := 97) (ls' := [_, _, _, _]) (st' := [_, _]) rfl ?_
                refine je_putI jb_X11_street rfl (pc' := 100) rfl (j := 5) (a := 1) rfl (by rfl) (by rfl) (by rfl) (by rfl) ?_
                rw [jU_same, jU_jU]
                refine je_ps jb_X11_street 1 (pc' := 101) (ls' := [_, _, _, _]) (st' := [_]) rfl ?_
                refine je_get jb_X11_street rfl (pc' := 104) rfl (jh_at (a := 0) rfl) (by rfl) (by rfl) ?_
                refine je_get jb_X11_street rfl (pc' := 107) rfl (jh_at (a := 1) rfl) (by rfl) (by rfl) ?_
                refine je_get jb_X11_street rfl (pc' := 110) rfl (jh_at (a := 2) rfl) (by rfl) (by rfl) ?_
                first | (exfalso; omega) | (have e3 : (if x = 1 then y else (25 : Int)) = y := if_pos (by omega); rw [show aStreet A x y z = (y, sSt A x y z) from by unfold aStreet; rw [if_neg (by omega), if_neg (by omega), if_neg (by omega), e3]]; exact je_ret jb_X11_street rfl (by rfl) ⟨_, _, _, rfl, rfl, I.street (by unfold fS; omega) rfl rfl, kGst m _ _ _ _, tG.rfl' T⟩) | (have e3 : (if x = 1 then y else (25 : Int)) = 25 := if_neg (by omega); rw [show aStreet A x y z = (25, sSt A x 25 z) from by unfold aStreet; rw [if_neg (by omega), if_neg (by omega), if_neg (by omega), e3]]; exact je_ret jb_X11_street rfl (by rfl) ⟨_, _, _, rfl, rfl, I.street (by unfold fS; omega) rfl rfl, kGst m _ _ _ _, tG.rfl' T⟩)
              · refine je_ps jb_X11_street 3 (pc' := 81) (ls' := [_, _, _, _]) (st' := [_, _, _, _]) rfl ?_
                refine je_cvP' jb_X11_street rfl (pc' := 84) rfl (jh_at (a := 2) rfl) (by rfl) (by first | decide | exact Nat.ble_eq_true_of_le (by omega)) become_2 (st' := []) rfl ?_
                refine je_ps jb_X11_street 1 (pc' := 85) (ls' := [_, _, _, _]) (st' := [_]) rfl ?_
                refine je_get jb_X11_street rfl (pc' := 88) rfl (jh_at (a := 0) rfl) (by rfl) (by rfl) ?_
                refine je_ps jb_X11_street 1 (pc' := 89) (ls' := [_, _, _, _]) (st' := [_, _]) rfl ?_
                refine je_putI jb_X11_street rfl (pc' := 92) rfl (j := 2) (a := 1) rfl (by rfl) (by rfl) (by rfl) (by rfl) ?_
                refine je_ps jb_X11_street 1 (pc' := 93) (ls' := [_, _, _, _]) (st' := [_]) rfl ?_
                refine je_get jb_X11_street rfl (pc' := 96) rfl (jh_at (a := 0) rfl) (by rfl) (by rfl) ?_
                refine je_ps jb_X11_street 1 (pc' := 97) (ls' := [_, _, _, _]) (st' := [_, _]) rfl ?_
                refine je_putI jb_X11_street rfl (pc' := 100) rfl (j := 5) (a := 1) rfl (by rfl) (by rfl) (by rfl) (by rfl) ?_
                rw [jU_same, jU_jU]
                refine je_ps jb_X11_street 1 (pc' := 101) (ls' := [_, _, _, _]) (st' := [_]) rfl ?_
                refine je_get jb_X11_street rfl (pc' := 104) rfl (jh_at (a := 0) rfl) (by rfl) (by rfl) ?_
                refine je_get jb_X11_street rfl (pc' := 107) rfl (jh_at (a := 1) rfl) (by rfl) (by rfl) ?_
                refine je_get jb_X11_street rfl (pc' := 110) rfl (jh_at (a := 2) rfl) (by rfl) (by rfl) ?_
                first | (exfalso; omega) | (have e3 : (if x = 1 then y else (25 : Int)) = y := if_pos (by omega); rw [show aStreet A x y z = (y, sSt A x y z) from by unfold aStreet; rw [if_neg (by omega), if_neg (by omega), if_neg (by omega), e3]]; exact je_ret jb_X11_street rfl (by rfl) ⟨_, _, _, rfl, rfl, I.street (by unfold fS; omega) rfl rfl, kGst m _ _ _ _, tG.rfl' T⟩) | (have e3 : (if x = 1 then y else (25 : Int)) = 25 := if_neg (by omega); rw [show aStreet A x y z = (25, sSt A x 25 z) from by unfold aStreet; rw [if_neg (by omega), if_neg (by omega), if_neg (by omega), e3]]; exact je_ret jb_X11_street rfl (by rfl) ⟨_, _, _, rfl, rfl, I.street (by unfold fS; omega) rfl rfl, kGst m _ _ _ _, tG.rfl' T⟩)
            · refine je_ps jb_X11_street 2 (pc' := 57) (ls' := [_, _, _, _]) (st' := [_, _]) rfl ?_
              refine je_cvP' jb_X11_street rfl (pc' := 60) rfl (jh_at (a := 0) rfl) (by rfl) (by first | decide | exact Nat.ble_eq_true_of_le (by omega)) (c_X11_refuse (by omega)) (st' := [_]) rfl ?_
              rw [show aStreet A x y z = aRef A (-6) from by unfold aStreet; rw [if_neg (by omega), if_neg (by omega), if_pos (by omega)]]
              exact je_ret jb_X11_street rfl (by rfl) ⟨_, _, _, rfl, rfl, I.ref (by omega), kG.ref m _, tG.rfl' T⟩
          · refine je_ps jb_X11_street 2 (pc' := 46) (ls' := [_, _, _, _]) (st' := [_, _]) rfl ?_
            refine je_icmpgt jb_X11_street rfl (t := 54) rfl (pc' := 49) rfl (by first | omega | exact (hM _ _).1 | exact (hM _ _).2) (by first | omega | exact (hM _ _).1 | exact (hM _ _).2) (by first | omega | exact (hM _ _).1 | exact (hM _ _).2) (by first | omega | exact (hM _ _).1 | exact (hM _ _).2) (fun c46 => ?_) (fun c46 => ?_)
            · refine je_ps jb_X11_street 2 (pc' := 57) (ls' := [_, _, _, _]) (st' := [_, _]) rfl ?_
              refine je_cvP' jb_X11_street rfl (pc' := 60) rfl (jh_at (a := 0) rfl) (by rfl) (by first | decide | exact Nat.ble_eq_true_of_le (by omega)) (c_X11_refuse (by omega)) (st' := [_]) rfl ?_
              rw [show aStreet A x y z = aRef A (-6) from by unfold aStreet; rw [if_neg (by omega), if_neg (by omega), if_pos (by omega)]]
              exact je_ret jb_X11_street rfl (by rfl) ⟨_, _, _, rfl, rfl, I.ref (by omega), kG.ref m _, tG.rfl' T⟩
            · refine je_ps jb_X11_street 2 (pc' := 51) (ls' := [_, _, _, _]) (st' := [_, _]) rfl ?_
              refine je_icmple jb_X11_street rfl (t := 61) rfl (pc' := 54) rfl (by first | omega | exact (hM _ _).1 | exact (hM _ _).2) (by first | omega | exact (hM _ _).1 | exact (hM _ _).2) (by first | omega | exact (hM _ _).1 | exact (hM _ _).2) (by first | omega | exact (hM _ _).1 | exact (hM _ _).2) (fun c51 => ?_) (fun c51 => ?_)
              · refine je_ps jb_X11_street 1 (pc' := 62) (ls' := [_, _, _, _]) (st' := [_]) rfl ?_
                refine je_get jb_X11_street rfl (pc' := 65) rfl (jh_at (a := 0) rfl) (by rfl) (by rfl) ?_
                refine je_get jb_X11_street rfl (pc' := 68) rfl (jh_at (a := 1) rfl) (by rfl) (by rfl) ?_
                refine je_ps jb_X11_street 3 (pc' := 71) (ls' := [_, _, _, _]) (st' := [_, _, _, _]) rfl ?_
                refine je_icmpne jb_X11_street rfl (t := 78) rfl (pc' := 74) rfl (by first | omega | exact (hM _ _).1 | exact (hM _ _).2) (by first | omega | exact (hM _ _).1 | exact (hM _ _).2) (by first | omega | exact (hM _ _).1 | exact (hM _ _).2) (by first | omega | exact (hM _ _).1 | exact (hM _ _).2) (fun c71 => ?_) (fun c71 => ?_)
                · refine je_ps jb_X11_street 2 (pc' := 81) (ls' := [_, _, _, _]) (st' := [_, _, _, _]) rfl ?_
                  refine je_cvP' jb_X11_street rfl (pc' := 84) rfl (jh_at (a := 2) rfl) (by rfl) (by first | decide | exact Nat.ble_eq_true_of_le (by omega)) become_2 (st' := []) rfl ?_
                  refine je_ps jb_X11_street 1 (pc' := 85) (ls' := [_, _, _, _]) (st' := [_]) rfl ?_
                  refine je_get jb_X11_street rfl (pc' := 88) rfl (jh_at (a := 0) rfl) (by rfl) (by rfl) ?_
                  refine je_ps jb_X11_street 1 (pc' := 89) (ls' := [_, _, _, _]) (st' := [_, _]) rfl ?_
                  refine je_putI jb_X11_street rfl (pc' := 92) rfl (j := 2) (a := 1) rfl (by rfl) (by rfl) (by rfl) (by rfl) ?_
                  refine je_ps jb_X11_street 1 (pc' := 93) (ls' := [_, _, _, _]) (st' := [_]) rfl ?_
                  refine je_get jb_X11_street rfl (pc' := 96) rfl (jh_at (a := 0) rfl) (by rfl) (by rfl) ?_
                  refine je_ps jb_X11_street 1 (pc' := 97) (ls' := [_, _, _, _]) (st' := [_, _]) rfl ?_
                  refine je_putI jb_X11_street rfl (pc' := 100) rfl (j := 5) (a := 1) rfl (by rfl) (by rfl) (by rfl) (by rfl) ?_
                  rw [jU_same, jU_jU]
                  refine je_ps jb_X11_street 1 (pc' := 101) (ls' := [_, _, _, _]) (st' := [_]) rfl ?_
                  refine je_get jb_X11_street rfl (pc' := 104) rfl (jh_at (a := 0) rfl) (by rfl) (by rfl) ?_
                  refine je_get jb_X11_street rfl (pc' := 107) rfl (jh_at (a := 1) rfl) (by rfl) (by rfl) ?_
                  refine je_get jb_X11_street rfl (pc' := 110) rfl (jh_at (a := 2) rfl) (by rfl) (by rfl) ?_
                  first | (exfalso; omega) | (have e3 : (if x = 1 then y else (25 : Int)) = y := if_pos (by omega); rw [show aStreet A x y z = (y, sSt A x y z) from by unfold aStreet; rw [if_neg (by omega), if_neg (by omega), if_neg (by omega), e3]]; exact je_ret jb_X11_street rfl (by rfl) ⟨_, _, _, rfl, rfl, I.street (by unfold fS; omega) rfl rfl, kGst m _ _ _ _, tG.rfl' T⟩) | (have e3 : (if x = 1 then y else (25 : Int)) = 25 := if_neg (by omega); rw [show aStreet A x y z = (25, sSt A x 25 z) from by unfold aStreet; rw [if_neg (by omega), if_neg (by omega), if_neg (by omega), e3]]; exact je_ret jb_X11_street rfl (by rfl) ⟨_, _, _, rfl, rfl, I.street (by unfold fS; omega) rfl rfl, kGst m _ _ _ _, tG.rfl' T⟩)
                · refine je_ps jb_X11_street 3 (pc' := 81) (ls' := [_, _, _, _]) (st' := [_, _, _, _]) rfl ?_
                  refine je_cvP' jb_X11_street rfl (pc' := 84) rfl (jh_at (a := 2) rfl) (by rfl) (by first | decide | exact Nat.ble_eq_true_of_le (by omega)) become_2 (st' := []) rfl ?_
                  refine je_ps jb_X11_street 1 (pc' := 85) (ls' := [_, _, _, _]) (st' := [_]) rfl ?_
                  refine je_get jb_X11_street rfl (pc' := 88) rfl (jh_at (a := 0) rfl) (by rfl) (by rfl) ?_
                  refine je_ps jb_X11_street 1 (pc' := 89) (ls' := [_, _, _, _]) (st' := [_, _]) rfl ?_
                  refine je_putI jb_X11_street rfl (pc' := 92) rfl (j := 2) (a := 1) rfl (by rfl) (by rfl) (by rfl) (by rfl) ?_
                  refine je_ps jb_X11_street 1 (pc' := 93) (ls' := [_, _, _, _]) (st' := [_]) rfl ?_
                  refine je_get jb_X11_street rfl (pc' := 96) rfl (jh_at (a := 0) rfl) (by rfl) (by rfl) ?_
                  refine je_ps jb_X11_street 1 (pc' := 97) (ls' := [_, _, _, _]) (st' := [_, _]) rfl ?_
                  refine je_putI jb_X11_street rfl (pc' := 100) rfl (j := 5) (a := 1) rfl (by rfl) (by rfl) (by rfl) (by rfl) ?_
                  rw [jU_same, jU_jU]
                  refine je_ps jb_X11_street 1 (pc' := 101) (ls' := [_, _, _, _]) (st' := [_]) rfl ?_
                  refine je_get jb_X11_street rfl (pc' := 104) rfl (jh_at (a := 0) rfl) (by rfl) (by rfl) ?_
                  refine je_get jb_X11_street rfl (pc' := 107) rfl (jh_at (a := 1) rfl) (by rfl) (by rfl) ?_
                  refine je_get jb_X11_street rfl (pc' := 110) rfl (jh_at (a := 2) rfl) (by rfl) (by rfl) ?_
                  first | (exfalso; omega) | (have e3 : (if x = 1 then y else (25 : Int)) = y := if_pos (by omega); rw [show aStreet A x y z = (y, sSt A x y z) from by unfold aStreet; rw [if_neg (by omega), if_neg (by omega), if_neg (by omega), e3]]; exact je_ret jb_X11_street rfl (by rfl) ⟨_, _, _, rfl, rfl, I.street (by unfold fS; omega) rfl rfl, kGst m _ _ _ _, tG.rfl' T⟩) | (have e3 : (if x = 1 then y else (25 : Int)) = 25 := if_neg (by omega); rw [show aStreet A x y z = (25, sSt A x 25 z) from by unfold aStreet; rw [if_neg (by omega), if_neg (by omega), if_neg (by omega), e3]]; exact je_ret jb_X11_street rfl (by rfl) ⟨_, _, _, rfl, rfl, I.street (by unfold fS; omega) rfl rfl, kGst m _ _ _ _, tG.rfl' T⟩)
              · refine je_ps jb_X11_street 2 (pc' := 57) (ls' := [_, _, _, _]) (st' := [_, _]) rfl ?_
                refine je_cvP' jb_X11_street rfl (pc' := 60) rfl (jh_at (a := 0) rfl) (by rfl) (by first | decide | exact Nat.ble_eq_true_of_le (by omega)) (c_X11_refuse (by omega)) (st' := [_]) rfl ?_
                rw [show aStreet A x y z = aRef A (-6) from by unfold aStreet; rw [if_neg (by omega), if_neg (by omega), if_pos (by omega)]]
                exact je_ret jb_X11_street rfl (by rfl) ⟨_, _, _, rfl, rfl, I.ref (by omega), kG.ref m _, tG.rfl' T⟩
        · refine je_ps jb_X11_street 2 (pc' := 34) (ls' := [_, _, _, _]) (st' := [_, _]) rfl ?_
          refine je_cvP' jb_X11_street rfl (pc' := 37) rfl (jh_at (a := 0) rfl) (by rfl) (by first | decide | exact Nat.ble_eq_true_of_le (by omega)) (c_X11_refuse (by omega)) (st' := [_]) rfl ?_
          rw [show aStreet A x y z = aRef A (-4) from by unfold aStreet; rw [if_neg (by omega), if_pos (by omega)]]
          exact je_ret jb_X11_street rfl (by rfl) ⟨_, _, _, rfl, rfl, I.ref (by omega), kG.ref m _, tG.rfl' T⟩
      · refine je_ps jb_X11_street 2 (pc' := 23) (ls' := [_, _, _, _]) (st' := [_, _]) rfl ?_
        refine je_icmplt jb_X11_street rfl (t := 31) rfl (pc' := 26) rfl (by first | omega | exact (hM _ _).1 | exact (hM _ _).2) (by first | omega | exact (hM _ _).1 | exact (hM _ _).2) (by first | omega | exact (hM _ _).1 | exact (hM _ _).2) (by first | omega | exact (hM _ _).1 | exact (hM _ _).2) (fun c23 => ?_) (fun c23 => ?_)
        · refine je_ps jb_X11_street 2 (pc' := 34) (ls' := [_, _, _, _]) (st' := [_, _]) rfl ?_
          refine je_cvP' jb_X11_street rfl (pc' := 37) rfl (jh_at (a := 0) rfl) (by rfl) (by first | decide | exact Nat.ble_eq_true_of_le (by omega)) (c_X11_refuse (by omega)) (st' := [_]) rfl ?_
          rw [show aStreet A x y z = aRef A (-4) from by unfold aStreet; rw [if_neg (by omega), if_pos (by omega)]]
          exact je_ret jb_X11_street rfl (by rfl) ⟨_, _, _, rfl, rfl, I.ref (by omega), kG.ref m _, tG.rfl' T⟩
        · refine je_ps jb_X11_street 2 (pc' := 28) (ls' := [_, _, _, _]) (st' := [_, _]) rfl ?_
          refine je_icmpge jb_X11_street rfl (t := 38) rfl (pc' := 31) rfl (by first | omega | exact (hM _ _).1 | exact (hM _ _).2) (by first | omega | exact (hM _ _).1 | exact (hM _ _).2) (by first | omega | exact (hM _ _).1 | exact (hM _ _).2) (by first | omega | exact (hM _ _).1 | exact (hM _ _).2) (fun c28 => ?_) (fun c28 => ?_)
          · refine je_ps jb_X11_street 2 (pc' := 40) (ls' := [_, _, _, _]) (st' := [_, _]) rfl ?_
            refine je_icmpne jb_X11_street rfl (t := 49) rfl (pc' := 43) rfl (by first | omega | exact (hM _ _).1 | exact (hM _ _).2) (by first | omega | exact (hM _ _).1 | exact (hM _ _).2) (by first | omega | exact (hM _ _).1 | exact (hM _ _).2) (by first | omega | exact (hM _ _).1 | exact (hM _ _).2) (fun c40 => ?_) (fun c40 => ?_)
            · refine je_ps jb_X11_street 2 (pc' := 51) (ls' := [_, _, _, _]) (st' := [_, _]) rfl ?_
              refine je_icmple jb_X11_street rfl (t := 61) rfl (pc' := 54) rfl (by first | omega | exact (hM _ _).1 | exact (hM _ _).2) (by first | omega | exact (hM _ _).1 | exact (hM _ _).2) (by first | omega | exact (hM _ _).1 | exact (hM _ _).2) (by first | omega | exact (hM _ _).1 | exact (hM _ _).2) (fun c51 => ?_) (fun c51 => ?_)
              · refine je_ps jb_X11_street 1 (pc' := 62) (ls' := [_, _, _, _]) (st' := [_]) rfl ?_
                refine je_get jb_X11_street rfl (pc' := 65) rfl (jh_at (a := 0) rfl) (by rfl) (by rfl) ?_
                refine je_get jb_X11_street rfl (pc' := 68) rfl (jh_at (a := 1) rfl) (by rfl) (by rfl) ?_
                refine je_ps jb_X11_street 3 (pc' := 71) (ls' := [_, _, _, _]) (st' := [_, _, _, _]) rfl ?_
                refine je_icmpne jb_X11_street rfl (t := 78) rfl (pc' := 74) rfl (by first | omega | exact (hM _ _).1 | exact (hM _ _).2) (by first | omega | exact (hM _ _).1 | exact (hM _ _).2) (by first | omega | exact (hM _ _).1 | exact (hM _ _).2) (by first | omega | exact (hM _ _).1 | exact (hM _ _).2) (fun c71 => ?_) (fun c71 => ?_)
                · refine je_ps jb_X11_street 2 (pc' := 81) (ls' := [_, _, _, _]) (st' := [_, _, _, _]) rfl ?_
                  refine je_cvP' jb_X11_street rfl (pc' := 84) rfl (jh_at (a := 2) rfl) (by rfl) (by first | decide | exact Nat.ble_eq_true_of_le (by omega)) become_2 (st' := []) rfl ?_
                  refine je_ps jb_X11_street 1 (pc' := 85) (ls' := [_, _, _, _]) (st' := [_]) rfl ?_
                  refine je_get jb_X11_street rfl (pc' := 88) rfl (jh_at (a := 0) rfl) (by rfl) (by rfl) ?_
                  refine je_ps jb_X11_street 1 (pc' := 89) (ls' := [_, _, _, _]) (st' := [_, _]) rfl ?_
                  refine je_putI jb_X11_street rfl (pc' := 92) rfl (j := 2) (a := 1) rfl (by rfl) (by rfl) (by rfl) (by rfl) ?_
                  refine je_ps jb_X11_street 1 (pc' := 93) (ls' := [_, _, _, _]) (st' := [_]) rfl ?_
                  refine je_get jb_X11_street rfl (pc' := 96) rfl (jh_at (a := 0) rfl) (by rfl) (by rfl) ?_
                  refine je_ps jb_X11_street 1 (pc' := 97) (ls' := [_, _, _, _]) (st' := [_, _]) rfl ?_
                  refine je_putI jb_X11_street rfl (pc' := 100) rfl (j := 5) (a := 1) rfl (by rfl) (by rfl) (by rfl) (by rfl) ?_
                  rw [jU_same, jU_jU]
                  refine je_ps jb_X11_street 1 (pc' := 101) (ls' := [_, _, _, _]) (st' := [_]) rfl ?_
                  refine je_get jb_X11_street rfl (pc' := 104) rfl (jh_at (a := 0) rfl) (by rfl) (by rfl) ?_
                  refine je_get jb_X11_street rfl (pc' := 107) rfl (jh_at (a := 1) rfl) (by rfl) (by rfl) ?_
                  refine je_get jb_X11_street rfl (pc' := 110) rfl (jh_at (a := 2) rfl) (by rfl) (by rfl) ?_
                  first | (exfalso; omega) | (have e3 : (if x = 1 then y else (25 : Int)) = y := if_pos (by omega); rw [show aStreet A x y z = (y, sSt A x y z) from by unfold aStreet; rw [if_neg (by omega), if_neg (by omega), if_neg (by omega), e3]]; exact je_ret jb_X11_street rfl (by rfl) ⟨_, _, _, rfl, rfl, I.street (by unfold fS; omega) rfl rfl, kGst m _ _ _ _, tG.rfl' T⟩) | (have e3 : (if x = 1 then y else (25 : Int)) = 25 := if_neg (by omega); rw [show aStreet A x y z = (25, sSt A x 25 z) from by unfold aStreet; rw [if_neg (by omega), if_neg (by omega), if_neg (by omega), e3]]; exact je_ret jb_X11_street rfl (by rfl) ⟨_, _, _, rfl, rfl, I.street (by unfold fS; omega) rfl rfl, kGst m _ _ _ _, tG.rfl' T⟩)
                · refine je_ps jb_X11_street 3 (pc' := 81) (ls' := [_, _, _, _]) (st' := [_, _, _, _]) rfl ?_
                  refine je_cvP' jb_X11_street rfl (pc' := 84) rfl (jh_at (a := 2) rfl) (by rfl) (by first | decide | exact Nat.ble_eq_true_of_le (by omega)) become_2 (st' := []) rfl ?_
                  refine je_ps jb_X11_street 1 (pc' := 85) (ls' := [_, _, _, _]) (st' := [_]) rfl ?_
                  refine je_get jb_X11_street rfl (pc' := 88) rfl (jh_at (a := 0) rfl) (by rfl) (by rfl) ?_
                  refine je_ps jb_X11_street 1 (pc' := 89) (ls' := [_, _, _, _]) (st' := [_, _]) rfl ?_
                  refine je_putI jb_X11_street rfl (pc' := 92) rfl (j := 2) (a := 1) rfl (by rfl) (by rfl) (by rfl) (by rfl) ?_
                  refine je_ps jb_X11_street 1 (pc' := 93) (ls' := [_, _, _, _]) (st' := [_]) rfl ?_
                  refine je_get jb_X11_street rfl (pc' := 96) rfl (jh_at (a := 0) rfl) (by rfl) (by rfl) ?_
                  refine je_ps jb_X11_street 1 (pc' := 97) (ls' := [_, _, _, _]) (st' := [_, _]) rfl ?_
                  refine je_putI jb_X11_street rfl (pc' := 100) rfl (j := 5) (a := 1) rfl (by rfl) (by rfl) (by rfl) (by rfl) ?_
                  rw [jU_same, jU_jU]
                  refine je_ps jb_X11_street 1 (pc' := 101) (ls' := [_, _, _, _]) (st' := [_]) rfl ?_
                  refine je_get jb_X11_street rfl (pc' := 104) rfl (jh_at (a := 0) rfl) (by rfl) (by rfl) ?_
                  refine je_get jb_X11_street rfl (pc' := 107) rfl (jh_at (a := 1) rfl) (by rfl) (by rfl) ?_
                  refine je_get jb_X11_street rfl (pc' := 110) rfl (jh_at (a := 2) rfl) (by rfl) (by rfl) ?_
                  first | (exfalso; omega) | (have e3 : (if x = 1 then y else (25 : Int)) = y := if_pos (by omega); rw [show aStreet A x y z = (y, sSt A x y z) from by unfold aStreet; rw [if_neg (by omega), if_neg (by omega), if_neg (by omega), e3]]; exact je_ret jb_X11_street rfl (by rfl) ⟨_, _, _, rfl, rfl, I.street (by unfold fS; omega) rfl rfl, kGst m _ _ _ _, tG.rfl' T⟩) | (have e3 : (if x = 1 then y else (25 : Int)) = 25 := if_neg (by omega); rw [show aStreet A x y z = (25, sSt A x 25 z) from by unfold aStreet; rw [if_neg (by omega), if_neg (by omega), if_neg (by omega), e3]]; exact je_ret jb_X11_street rfl (by rfl) ⟨_, _, _, rfl, rfl, I.street (by unfold fS; omega) rfl rfl, kGst m _ _ _ _, tG.rfl' T⟩)
              · refine je_ps jb_X11_street 2 (pc' := 57) (ls' := [_, _, _, _]) (st' := [_, _]) rfl ?_
                refine je_cvP' jb_X11_street rfl (pc' := 60) rfl (jh_at (a := 0) rfl) (by rfl) (by first | decide | exact Nat.ble_eq_true_of_le (by omega)) (c_X11_refuse (by omega)) (st' := [_]) rfl ?_
                rw [show aStreet A x y z = aRef A (-6) from by unfold aStreet; rw [if_neg (by omega), if_neg (by omega), if_pos (by omega)]]
                exact je_ret jb_X11_street rfl (by rfl) ⟨_, _, _, rfl, rfl, I.ref (by omega), kG.ref m _, tG.rfl' T⟩
            · refine je_ps jb_X11_street 2 (pc' := 46) (ls' := [_, _, _, _]) (st' := [_, _]) rfl ?_
              refine je_icmpgt jb_X11_street rfl (t := 54) rfl (pc' := 49) rfl (by first | omega | exact (hM _ _).1 | exact (hM _ _).2) (by first | omega | exact (hM _ _).1 | exact (hM _ _).2) (by first | omega | exact (hM _ _).1 | exact (hM _ _).2) (by first | omega | exact (hM _ _).1 | exact (hM _ _).2) (fun c46 => ?_) (fun c46 => ?_)
              · refine je_ps jb_X11_street 2 (pc' := 57) (ls' := [_, _, _, _]) (st' := [_, _]) rfl ?_
                refine je_cvP' jb_X11_street rfl (pc' := 60) rfl (jh_at (a := 0) rfl) (by rfl) (by first | decide | exact Nat.ble_eq_true_of_le (by omega)) (c_X11_refuse (by omega)) (st' := [_]) rfl ?_
                rw [show aStreet A x y z = aRef A (-6) from by unfold aStreet; rw [if_neg (by omega), if_neg (by omega), if_pos (by omega)]]
                exact je_ret jb_X11_street rfl (by rfl) ⟨_, _, _, rfl, rfl, I.ref (by omega), kG.ref m _, tG.rfl' T⟩
              · refine je_ps jb_X11_street 2 (pc' := 51) (ls' := [_, _, _, _]) (st' := [_, _]) rfl ?_
                refine je_icmple jb_X11_street rfl (t := 61) rfl (pc' := 54) rfl (by first | omega | exact (hM _ _).1 | exact (hM _ _).2) (by first | omega | exact (hM _ _).1 | exact (hM _ _).2) (by first | omega | exact (hM _ _).1 | exact (hM _ _).2) (by first | omega | exact (hM _ _).1 | exact (hM _ _).2) (fun c51 => ?_) (fun c51 => ?_)
                · refine je_ps jb_X11_street 1 (pc' := 62) (ls' := [_, _, _, _]) (st' := [_]) rfl ?_
                  refine je_get jb_X11_street rfl (pc' := 65) rfl (jh_at (a := 0) rfl) (by rfl) (by rfl) ?_
                  refine je_get jb_X11_street rfl (pc' := 68) rfl (jh_at (a := 1) rfl) (by rfl) (by rfl) ?_
                  refine je_ps jb_X11_street 3 (pc' := 71) (ls' := [_, _, _, _]) (st' := [_, _, _, _]) rfl ?_
                  refine je_icmpne jb_X11_street rfl (t := 78) rfl (pc' := 74) rfl (by first | omega | exact (hM _ _).1 | exact (hM _ _).2) (by first | omega | exact (hM _ _).1 | exact (hM _ _).2) (by first | omega | exact (hM _ _).1 | exact (hM _ _).2) (by first | omega | exact (hM _ _).1 | exact (hM _ _).2) (fun c71 => ?_) (fun c71 => ?_)
                  · refine je_ps jb_X11_street 2 (pc' := 81) (ls' := [_, _, _, _]) (st' := [_, _, _, _]) rfl ?_
                    refine je_cvP' jb_X11_street rfl (pc' := 84) rfl (jh_at (a := 2) rfl) (by rfl) (by first | decide | exact Nat.ble_eq_true_of_le (by omega)) become_2 (st' := []) rfl ?_
                    refine je_ps jb_X11_street 1 (pc' := 85) (ls' := [_, _, _, _]) (st' := [_]) rfl ?_
                    refine je_get jb_X11_street rfl (pc' := 88) rfl (jh_at (a := 0) rfl) (by rfl) (by rfl) ?_
                    refine je_ps jb_X11_street 1 (pc' := 89) (ls' := [_, _, _, _]) (st' := [_, _]) rfl ?_
                    refine je_putI jb_X11_street rfl (pc' := 92) rfl (j := 2) (a := 1) rfl (by rfl) (by rfl) (by rfl) (by rfl) ?_
                    refine je_ps jb_X11_street 1 (pc' := 93) (ls' := [_, _, _, _]) (st' := [_]) rfl ?_
                    refine je_get jb_X11_street rfl (pc' := 96) rfl (jh_at (a := 0) rfl) (by rfl) (by rfl) ?_
                    refine je_ps jb_X11_street 1 (pc' := 97) (ls' := [_, _, _, _]) (st' := [_, _]) rfl ?_
                    refine je_putI jb_X11_street rfl (pc' := 100) rfl (j := 5) (a := 1) rfl (by rfl) (by rfl) (by rfl) (by rfl) ?_
                    rw [jU_same, jU_jU]
                    refine je_ps jb_X11_street 1 (pc' := 101) (ls' := [_, _, _, _]) (st' := [_]) rfl ?_
                    refine je_get jb_X11_street rfl (pc' := 104) rfl (jh_at (a := 0) rfl) (by rfl) (by rfl) ?_
                    refine je_get jb_X11_street rfl (pc' := 107) rfl (jh_at (a := 1) rfl) (by rfl) (by rfl) ?_
                    refine je_get jb_X11_street rfl (pc' := 110) rfl (jh_at (a := 2) rfl) (by rfl) (by rfl) ?_
                    first | (exfalso; omega) | (have e3 : (if x = 1 then y else (25 : Int)) = y := if_pos (by omega); rw [show aStreet A x y z = (y, sSt A x y z) from by unfold aStreet; rw [if_neg (by omega), if_neg (by omega), if_neg (by omega), e3]]; exact je_ret jb_X11_street rfl (by rfl) ⟨_, _, _, rfl, rfl, I.street (by unfold fS; omega) rfl rfl, kGst m _ _ _ _, tG.rfl' T⟩) | (have e3 : (if x = 1 then y else (25 : Int)) = 25 := if_neg (by omega); rw [show aStreet A x y z = (25, sSt A x 25 z) from by unfold aStreet; rw [if_neg (by omega), if_neg (by omega), if_neg (by omega), e3]]; exact je_ret jb_X11_street rfl (by rfl) ⟨_, _, _, rfl, rfl, I.street (by unfold fS; omega) rfl rfl, kGst m _ _ _ _, tG.rfl' T⟩)
                  · refine je_ps jb_X11_street 3 (pc' := 81) (ls' := [_, _, _, _]) (st' := [_, _, _, _]) rfl ?_
                    refine je_cvP' jb_X11_street rfl (pc' := 84) rfl (jh_at (a := 2) rfl) (by rfl) (by first | decide | exact Nat.ble_eq_true_of_le (by omega)) become_2 (st' := []) rfl ?_
                    refine je_ps jb_X11_street 1 (pc' := 85) (ls' := [_, _, _, _]) (st' := [_]) rfl ?_
                    refine je_get jb_X11_street rfl (pc' := 88) rfl (jh_at (a := 0) rfl) (by rfl) (by rfl) ?_
                    refine je_ps jb_X11_street 1 (pc' := 89) (ls' := [_, _, _, _]) (st' := [_, _]) rfl ?_
                    refine je_putI jb_X11_street rfl (pc' := 92) rfl (j := 2) (a := 1) rfl (by rfl) (by rfl) (by rfl) (by rfl) ?_
                    refine je_ps jb_X11_street 1 (pc' := 93) (ls' := [_, _, _, _]) (st' := [_]) rfl ?_
                    refine je_get jb_X11_street rfl (pc' := 96) rfl (jh_at (a := 0) rfl) (by rfl) (by rfl) ?_
                    refine je_ps jb_X11_street 1 (pc' := 97) (ls' := [_, _, _, _]) (st' := [_, _]) rfl ?_
                    refine je_putI jb_X11_street rfl (pc' := 100) rfl (j := 5) (a := 1) rfl (by rfl) (by rfl) (by rfl) (by rfl) ?_
                    rw [jU_same, jU_jU]
                    refine je_ps jb_X11_street 1 (pc' := 101) (ls' := [_, _, _, _]) (st' := [_]) rfl ?_
                    refine je_get jb_X11_street rfl (pc' := 104) rfl (jh_at (a := 0) rfl) (by rfl) (by rfl) ?_
                    refine je_get jb_X11_street rfl (pc' := 107) rfl (jh_at (a := 1) rfl) (by rfl) (by rfl) ?_
                    refine je_get jb_X11_street rfl (pc' := 110) rfl (jh_at (a := 2) rfl) (by rfl) (by rfl) ?_
                    first | (exfalso; omega) | (have e3 : (if x = 1 then y else (25 : Int)) = y := if_pos (by omega); rw [show aStreet A x y z = (y, sSt A x y z) from by unfold aStreet; rw [if_neg (by omega), if_neg (by omega), if_neg (by omega), e3]]; exact je_ret jb_X11_street rfl (by rfl) ⟨_, _, _, rfl, rfl, I.street (by unfold fS; omega) rfl rfl, kGst m _ _ _ _, tG.rfl' T⟩) | (have e3 : (if x = 1 then y else (25 : Int)) = 25 := if_neg (by omega); rw [show aStreet A x y z = (25, sSt A x 25 z) from by unfold aStreet; rw [if_neg (by omega), if_neg (by omega), if_neg (by omega), e3]]; exact je_ret jb_X11_street rfl (by rfl) ⟨_, _, _, rfl, rfl, I.street (by unfold fS; omega) rfl rfl, kGst m _ _ _ _, tG.rfl' T⟩)
                · refine je_ps jb_X11_street 2 (pc' := 57) (ls' := [_, _, _, _]) (st' := [_, _]) rfl ?_
                  refine je_cvP' jb_X11_street rfl (pc' := 60) rfl (jh_at (a := 0) rfl) (by rfl) (by first | decide | exact Nat.ble_eq_true_of_le (by omega)) (c_X11_refuse (by omega)) (st' := [_]) rfl ?_
                  rw [show aStreet A x y z = aRef A (-6) from by unfold aStreet; rw [if_neg (by omega), if_neg (by omega), if_pos (by omega)]]
                  exact je_ret jb_X11_street rfl (by rfl) ⟨_, _, _, rfl, rfl, I.ref (by omega), kG.ref m _, tG.rfl' T⟩
          · refine je_ps jb_X11_street 2 (pc' := 34) (ls' := [_, _, _, _]) (st' := [_, _]) rfl ?_
            refine je_cvP' jb_X11_street rfl (pc' := 37) rfl (jh_at (a := 0) rfl) (by rfl) (by first | decide | exact Nat.ble_eq_true_of_le (by omega)) (c_X11_refuse (by omega)) (st' := [_]) rfl ?_
            rw [show aStreet A x y z = aRef A (-4) from by unfold aStreet; rw [if_neg (by omega), if_pos (by omega)]]
            exact je_ret jb_X11_street rfl (by rfl) ⟨_, _, _, rfl, rfl, I.ref (by omega), kG.ref m _, tG.rfl' T⟩
    · refine je_ps jb_X11_street 2 (pc' := 12) (ls' := [_, _, _, _]) (st' := [_, _]) rfl ?_
      refine je_cvP' jb_X11_street rfl (pc' := 15) rfl (jh_at (a := 0) rfl) (by rfl) (by first | decide | exact Nat.ble_eq_true_of_le (by omega)) (c_X11_refuse (by omega)) (st' := [_]) rfl ?_
      rw [show aStreet A x y z = aRef A (-2) from by unfold aStreet; rw [if_pos (by omega)]]
      exact je_ret jb_X11_street rfl (by rfl) ⟨_, _, _, rfl, rfl, I.ref (by omega), kG.ref m _, tG.rfl' T⟩
end C56
