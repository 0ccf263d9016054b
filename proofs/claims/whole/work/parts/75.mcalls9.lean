/-! CALLS of the other side: the image taken, the image on -/
section C75
variable {sc : Nat × (Nat → Int32)} {m : Nat → Int → Int} {r : Nat → Nat → Value} {T : jx_H} {σ : jx_H}
variable {d M pc : Nat} {ls st : List Value} {Q : Option Value → jx_H → Prop}
theorem je_gen {P : (Nat → Int → Int) → Prop} (h : P m) (k : ∀ m', P m' → je sc d M pc ls st (jh m' r T) Q) : je sc d M pc ls st (jh m r T) Q := k m h
theorem jU_two {a b : Nat} {f f' g g' : Int → Int} (h : a ≠ b) : jU (jU (jU (jU m a f) b g) a f') b g' = jU (jU m a f') b g' := by
  funext c
  by_cases h1 : c = b
  · subst h1
    rw [jU_same, jU_same]
  · rw [jU_ne h1, jU_ne h1]
    by_cases h2 : c = a
    · subst h2
      rw [jU_same, jU_same]
    · rw [jU_ne h2, jU_ne h1, jU_ne h2, jU_ne h2]
theorem jU_c2 {a b : Nat} {f f' g g' : Int → Int} (h1 : f = f') (h2 : g = g') : jU (jU m a f) b g = jU (jU m a f') b g' := by rw [h1, h2]
theorem fLay_in0 {f L : Int → Int} {n p : Int} (h : 0 ≤ p ∧ p < n) : fLay f L 0 n p = L p := by
  unfold fLay
  rw [if_pos (by omega), show p - 0 = p by omega]
def iP1 (m m1 : Nat → Int → Int) : Prop := (∀ b : Nat, b ≠ 45 → m1 b = m b) ∧ (∀ j : Int, j < 25 → m1 45 j = m 45 j) ∧ m1 45 25 = 1 ∧ m1 45 26 = m 45 1 ∧ m1 45 27 = m 45 2 ∧ m1 45 28 = m 45 4 ∧ m1 45 29 = m 45 5
def iP2 (m m2 : Nat → Int → Int) : Prop := (∀ b : Nat, b ≠ 45 → b ≠ 58 → b ≠ 59 → m2 b = m b) ∧ (∀ j : Int, j < 25 → m2 45 j = m 45 j) ∧ (m2 45 25 = 1 ∧ m2 45 26 = m 45 1 ∧ m2 45 27 = m 45 2 ∧ m2 45 28 = m 45 4 ∧ m2 45 29 = m 45 5) ∧ m2 45 32 = m 45 8 ∧ (∀ p : Int, 0 ≤ p → p < 150 → m2 58 p = m 47 p) ∧ ∀ p : Int, 0 ≤ p → p < 6 → m2 59 p = m 48 p
theorem iP2_of {m1 : Nat → Int → Int} (h : iP1 m m1) {m2 : Nat → Int → Int} (e2 : m2 = jU (jU m1 58 (fLay (m1 58) (m1 47) 0 150)) 59 (fLay (m1 59) (m1 48) 0 6)) : iP2 m (jU m2 45 (ju (m2 45) 32 (m2 45 8))) := by
  obtain ⟨h1, h2, h3, h4, h5, h6, h7⟩ := h
  have n43 : m2 45 = m1 45 := by rw [e2, jU_ne (by decide), jU_ne (by decide)]
  refine ⟨fun b q1 q2 q3 => ?_, fun j hj => ?_, ?_, ?_, fun p p0 p1 => ?_, fun p p0 p1 => ?_⟩
  · rw [jU_ne q1, e2, jU_ne q3, jU_ne q2]; exact h1 b q1
  · rw [jU_same, ju_ne (by omega), n43]; exact h2 j hj
  · rw [jU_same, ju_ne (by decide), ju_ne (by decide), ju_ne (by decide), ju_ne (by decide), ju_ne (by decide), n43]; exact ⟨h3, h4, h5, h6, h7⟩
  · rw [jU_same, ju_same, n43]; exact h2 8 (by decide)
  · rw [jU_ne (by decide), e2, jU_ne (by decide), jU_same, fLay_in0 ⟨p0, p1⟩, h1 47 (by decide)]
  · rw [jU_ne (by decide), e2, jU_same, fLay_in0 ⟨p0, p1⟩, h1 48 (by decide)]
theorem iG.im {A : aT} (J : iG A m) (O : aOk A) {m2 m3 : Nat → Int → Int} (h : iP2 m m2) (e3 : m3 = jU (jU m2 60 (fLay (m2 60) (m2 49) 0 4)) 61 (fLay (m2 61) (m2 50) 0 4)) : iG (sIm A) m3 ∧ m3 45 5 = (aC A : Int) ∧ kC m m3 := by
  obtain ⟨h1, h2, ⟨h3, h4, h5, h6, h7⟩, h8, h9, h10⟩ := h
  obtain ⟨j1, j2, j3, j4, j5, j6, j7, j8, j9, j10⟩ := J
  have c6 := O.c6
  have g4 := O.h4
  have n : ∀ b : Nat, b ≠ 60 → b ≠ 61 → m3 b = m2 b := fun b q1 q2 => by rw [e3, jU_ne q2, jU_ne q1]
  have n43 := n 45 (by decide) (by decide)
  have nb : ∀ b : Nat, b ≠ 45 → b ≠ 58 → b ≠ 59 → b ≠ 60 → b ≠ 61 → m3 b = m b := fun b q1 q2 q3 q4 q5 => (n b q4 q5).trans (h1 b q1 q2 q3)
  have n58 : ∀ p : Int, 0 ≤ p → p < 4 → m3 60 p = m 49 p := fun p p0 p1 => by rw [e3, jU_ne (by decide), jU_same, fLay_in0 ⟨p0, p1⟩, h1 49 (by decide) (by decide) (by decide)]
  have n59 : ∀ p : Int, 0 ≤ p → p < 4 → m3 61 p = m 50 p := fun p p0 p1 => by rw [e3, jU_same, fLay_in0 ⟨p0, p1⟩, h1 50 (by decide) (by decide) (by decide)]
  refine ⟨⟨⟨?_, j1.2⟩, ?_, ?_, ?_, ?_, ?_, ?_, ?_, ?_, fun _ => ⟨?_, ?_, fun i hi => ?_, ?_, fun i hi => ?_⟩⟩, by rw [n43, h2 5 (by decide)]; exact j2, fun b hb => nb b (by omega) (by omega) (by omega) (by omega) (by omega)⟩
  · rw [n43, h2 1 (by decide), h2 2 (by decide), h2 3 (by decide), h2 4 (by decide)]; exact j1.1
  · rw [n43, h2 5 (by decide)]; exact j2
  · intro i hi
    have g := j3 i hi
    unfold gR at *; rw [nb 47 (by decide) (by decide) (by decide) (by decide) (by decide), nb 48 (by decide) (by decide) (by decide) (by decide) (by decide)]; exact g
  · rw [n43, h2 8 (by decide)]; exact j4
  · rw [nb 49 (by decide) (by decide) (by decide) (by decide) (by decide), nb 50 (by decide) (by decide) (by decide) (by decide) (by decide)]; exact j5
  · rw [n43, h2 22 (by decide), nb 55 (by decide) (by decide) (by decide) (by decide) (by decide)]; exact j6
  · rw [nb 56 (by decide) (by decide) (by decide) (by decide) (by decide), nb 57 (by decide) (by decide) (by decide) (by decide) (by decide)]; exact j7
  · rw [nb 46 (by decide) (by decide) (by decide) (by decide) (by decide)]; exact j8
  · rw [n43]; exact h3
  · rw [n43, h4, h5, h6]; exact ⟨j1.1.1, j1.1.2.1, j1.1.2.2.2⟩
  · rw [n43, h7]; exact j2
  · have hi : i < aC A := hi
    have g := j3 i hi
    refine ⟨fun p p0 p1 => ?_, ?_⟩
    · rw [n 58 (by decide) (by decide), h9 _ (by omega) (by omega)]; exact g.2.1 p p0 p1
    · rw [n 59 (by decide) (by decide), h10 _ (by omega) (by omega)]; exact g.2.2
  · rw [n43, h8]; exact j4
  · have hi : i < aHc A := hi
    rw [n58 _ (by omega) (by omega), n59 _ (by omega) (by omega)]; exact j5 i hi
theorem gl_image {A : aT} (O : aOk A) (J : iG A m)  : jq sc 6 jm_X12_image [.ref 45] (jh m r T) (gQ (aImage A) m r T) := by
  have c6 := O.c6
  have fs := O.fs
  have jc := J.c
  refine je_in jb_X12_image rfl (ls := [_, _]) rfl ?_
  refine je_ps jb_X12_image 2 (pc' := 2) (ls' := [_, _]) (st' := [_, _]) rfl ?_
  refine je_putI jb_X12_image rfl (pc' := 5) rfl (j := 25) (a := 45) rfl (by rfl) (by rfl) (by rfl) (by rfl) ?_
  refine je_ps jb_X12_image 2 (pc' := 7) (ls' := [_, _]) (st' := [_, _]) rfl ?_
  refine je_get jb_X12_image rfl (pc' := 10) rfl (jh_at (a := 45) rfl) (by rfl) (by rfl) ?_
  have s01 : jU m 45 (ju (m 45) 25 1) 45 1 = 0 ∨ jU m 45 (ju (m 45) 25 1) 45 1 = 1 := by rw [jU_same, ju_ne (by decide), J.st.1.1]; unfold fS at fs; omega
  refine je_putI jb_X12_image rfl (pc' := 13) rfl (j := 26) (a := 45) rfl (by rfl) (by rfl) (by rcases s01 with h | h; (rw [h]; rfl); (rw [h]; rfl)) (by rfl) ?_
  refine je_ps jb_X12_image 2 (pc' := 15) (ls' := [_, _]) (st' := [_, _]) rfl ?_
  refine je_get jb_X12_image rfl (pc' := 18) rfl (jh_at (a := 45) rfl) (by rfl) (by rfl) ?_
  refine je_putI jb_X12_image rfl (pc' := 21) rfl (j := 27) (a := 45) rfl (by rfl) (by rfl) (by rfl) (by rfl) ?_
  refine je_ps jb_X12_image 2 (pc' := 23) (ls' := [_, _]) (st' := [_, _]) rfl ?_
  refine je_get jb_X12_image rfl (pc' := 26) rfl (jh_at (a := 45) rfl) (by rfl) (by rfl) ?_
  refine je_putI jb_X12_image rfl (pc' := 29) rfl (j := 28) (a := 45) rfl (by rfl) (by rfl) (by rfl) (by rfl) ?_
  refine je_ps jb_X12_image 2 (pc' := 31) (ls' := [_, _]) (st' := [_, _]) rfl ?_
  refine je_get jb_X12_image rfl (pc' := 34) rfl (jh_at (a := 45) rfl) (by rfl) (by rfl) ?_
  refine je_putI jb_X12_image rfl (pc' := 37) rfl (j := 29) (a := 45) rfl (by rfl) (by rfl) (by rfl) (by rfl) ?_
  refine je_gen (P := fun m' => iP1 m m') ?_ (fun m1 p1 => ?_)
  · refine ⟨fun b hb => by rw [jU_ne hb, jU_ne hb, jU_ne hb, jU_ne hb, jU_ne hb], fun j hj => by simp only [jU_same]; rw [ju_ne (by omega), ju_ne (by omega), ju_ne (by omega), ju_ne (by omega), ju_ne (by omega)], by simp [jU, ju], by simp [jU, ju], by simp [jU, ju], by simp [jU, ju], by simp [jU, ju]⟩
  refine je_ps jb_X12_image 2 (pc' := 39) (ls' := [_, _]) (st' := []) rfl ?_
  refine je_loop (fun (v : Nat) ls σ' => ls = [.ref 45, .int (jI v)] ∧ σ' = jh (jU m1 58 (fLay (m1 58) (m1 47) 0 v)) r T) (150) ⟨rfl, jh_eq (jU_sf (by rw [show ((0 : Nat) : Int) = 0 from rfl, gLay_0])).symm⟩ (fun v hv ls σ' gv kv => ?_) (fun ls σ' gv => ?_)
  · obtain ⟨rfl, rfl⟩ := gv
    refine je_ps jb_X12_image 2 (pc' := 43) (ls' := [_, _]) (st' := [_, _]) rfl ?_
    refine je_icmpge jb_X12_image rfl (t := 64) rfl (pc' := 46) rfl (by first | omega | exact (hM _ _).1 | exact (hM _ _).2) (by first | omega | exact (hM _ _).1 | exact (hM _ _).2) (by first | omega | exact (hM _ _).1 | exact (hM _ _).2) (by first | omega | exact (hM _ _).1 | exact (hM _ _).2) (fun c43 => ?_) (fun c43 => ?_)
    · first | (exfalso; omega) | (cases c43; done) | (exfalso; simp_all; done)
    · refine je_ps jb_X12_image 1 (pc' := 47) (ls' := [_, _]) (st' := [_]) rfl ?_
      refine je_get jb_X12_image rfl (pc' := 50) rfl (jh_at (a := 45) rfl) (by rfl) (by rfl) ?_
      refine je_ps jb_X12_image 2 (pc' := 52) (ls' := [_, _]) (st' := [_, _, _]) rfl ?_
      refine je_get jb_X12_image rfl (pc' := 55) rfl (jh_at (a := 45) rfl) (by rfl) (by rfl) ?_
      refine je_ps jb_X12_image 1 (pc' := 56) (ls' := [_, _]) (st' := [_, _, _, _]) rfl ?_
      refine je_iald jb_X12_image rfl (pc' := 57) rfl (n := 225) (f := _) (jh_at (a := 47) rfl) (by first | omega | exact (hM _ _).1 | exact (hM _ _).2) (by first | omega | exact (hM _ _).1 | exact (hM _ _).2) (by first | omega | exact (hM _ _).1 | exact (hM _ _).2) ?_
      refine je_iastI jb_X12_image rfl (pc' := 58) rfl (n := 150) (a := 58) rfl (fun _ => rfl) (by first | omega | exact (hM _ _).1 | exact (hM _ _).2) (by first | omega | exact (hM _ _).1 | exact (hM _ _).2) (by first | omega | exact (hM _ _).1 | exact (hM _ _).2) ?_
      refine je_iinc jb_X12_image rfl (pc' := 61) rfl rfl (ls' := [_, _]) rfl ?_
      refine je_ps jb_X12_image 1 (pc' := 39) (ls' := [_, _]) (st' := []) rfl ?_
      refine kv _ _ ⟨rfl, jh_eq ?_⟩
      rw [jU_same, jU_jU]
      exact congrArg (jU _ 58) (gLay_s (by omega) (by omega) (by rw [jU_ne (b := 47) (a := 58) (by decide)]))
  · obtain ⟨rfl, rfl⟩ := gv
    refine je_ps jb_X12_image 2 (pc' := 43) (ls' := [_, _]) (st' := [_, _]) rfl ?_
    refine je_icmpge jb_X12_image rfl (t := 64) rfl (pc' := 46) rfl (by first | omega | exact (hM _ _).1 | exact (hM _ _).2) (by first | omega | exact (hM _ _).1 | exact (hM _ _).2) (by first | omega | exact (hM _ _).1 | exact (hM _ _).2) (by first | omega | exact (hM _ _).1 | exact (hM _ _).2) (fun c43 => ?_) (fun c43 => ?_)
    · refine je_ps jb_X12_image 2 (pc' := 66) (ls' := [_, _]) (st' := []) rfl ?_
      refine je_loop (fun (w : Nat) ls σ' => ls = [.ref 45, .int (jI w)] ∧ σ' = jh (jU (jU m1 58 (fLay (m1 58) (m1 47) 0 (150 : Nat))) 59 (fLay (m1 59) (m1 48) 0 w)) r T) (6) ⟨rfl, jh_eq (jU_sf (by rw [show ((0 : Nat) : Int) = 0 from rfl, gLay_0]; exact (jU_ne (by decide)).symm)).symm⟩ (fun w hw ls σ' gw kw => ?_) (fun ls σ' gw => ?_)
      · obtain ⟨rfl, rfl⟩ := gw
        refine je_ps jb_X12_image 2 (pc' := 69) (ls' := [_, _]) (st' := [_, _]) rfl ?_
        refine je_icmpge jb_X12_image rfl (t := 90) rfl (pc' := 72) rfl (by first | omega | exact (hM _ _).1 | exact (hM _ _).2) (by first | omega | exact (hM _ _).1 | exact (hM _ _).2) (by first | omega | exact (hM _ _).1 | exact (hM _ _).2) (by first | omega | exact (hM _ _).1 | exact (hM _ _).2) (fun c69 => ?_) (fun c69 => ?_)
        · first | (exfalso; omega) | (cases c69; done) | (exfalso; simp_all; done)
        · refine je_ps jb_X12_image 1 (pc' := 73) (ls' := [_, _]) (st' := [_]) rfl ?_
          refine je_get jb_X12_image rfl (pc' := 76) rfl (jh_at (a := 45) rfl) (by rfl) (by rfl) ?_
          refine je_ps jb_X12_image 2 (pc' := 78) (ls' := [_, _]) (st' := [_, _, _]) rfl ?_
          refine je_get jb_X12_image rfl (pc' := 81) rfl (jh_at (a := 45) rfl) (by rfl) (by rfl) ?_
          refine je_ps jb_X12_image 1 (pc' := 82) (ls' := [_, _]) (st' := [_, _, _, _]) rfl ?_
          refine je_iald jb_X12_image rfl (pc' := 83) rfl (n := 9) (f := _) (jh_at (a := 48) rfl) (by first | omega | exact (hM _ _).1 | exact (hM _ _).2) (by first | omega | exact (hM _ _).1 | exact (hM _ _).2) (by first | omega | exact (hM _ _).1 | exact (hM _ _).2) ?_
          refine je_iastI jb_X12_image rfl (pc' := 84) rfl (n := 6) (a := 59) rfl (fun _ => rfl) (by first | omega | exact (hM _ _).1 | exact (hM _ _).2) (by first | omega | exact (hM _ _).1 | exact (hM _ _).2) (by first | omega | exact (hM _ _).1 | exact (hM _ _).2) ?_
          refine je_iinc jb_X12_image rfl (pc' := 87) rfl rfl (ls' := [_, _]) rfl ?_
          refine je_ps jb_X12_image 1 (pc' := 66) (ls' := [_, _]) (st' := []) rfl ?_
          refine kw _ _ ⟨rfl, jh_eq ?_⟩
          rw [jU_same, jU_jU]
          exact congrArg (jU _ 59) (gLay_s (by omega) (by omega) (by rw [jU_ne (b := 48) (a := 59) (by decide), jU_ne (b := 48) (a := 58) (by decide)]))
      · obtain ⟨rfl, rfl⟩ := gw
        refine je_ps jb_X12_image 2 (pc' := 69) (ls' := [_, _]) (st' := [_, _]) rfl ?_
        refine je_icmpge jb_X12_image rfl (t := 90) rfl (pc' := 72) rfl (by first | omega | exact (hM _ _).1 | exact (hM _ _).2) (by first | omega | exact (hM _ _).1 | exact (hM _ _).2) (by first | omega | exact (hM _ _).1 | exact (hM _ _).2) (by first | omega | exact (hM _ _).1 | exact (hM _ _).2) (fun c69 => ?_) (fun c69 => ?_)
        · refine je_ps jb_X12_image 2 (pc' := 92) (ls' := [_, _]) (st' := [_, _]) rfl ?_
          refine je_get jb_X12_image rfl (pc' := 95) rfl (jh_at (a := 45) rfl) (by rfl) (by rfl) ?_
          refine je_putI jb_X12_image rfl (pc' := 98) rfl (j := 32) (a := 45) rfl (by rfl) (by rfl) (by rfl) (by rfl) ?_
          refine je_gen (P := fun m' => iP2 m m') (iP2_of p1 rfl) (fun m2 p2 => ?_)
          refine je_ps jb_X12_image 2 (pc' := 100) (ls' := [_, _]) (st' := []) rfl ?_
          refine je_loop (fun (u : Nat) ls σ' => ls = [.ref 45, .int (jI u)] ∧ σ' = jh (jU (jU m2 60 (fLay (m2 60) (m2 49) 0 u)) 61 (fLay (m2 61) (m2 50) 0 u)) r T) (4) ⟨rfl, jh_eq (by rw [show ((0 : Nat) : Int) = 0 from rfl, gLay_0, gLay_0, jU_self]; exact (jU_self m2 61).symm)⟩ (fun u hu ls σ' gu ku => ?_) (fun ls σ' gu => ?_)
          · obtain ⟨rfl, rfl⟩ := gu
            refine je_ps jb_X12_image 2 (pc' := 102) (ls' := [_, _]) (st' := [_, _]) rfl ?_
            refine je_icmpge jb_X12_image rfl (t := 135) rfl (pc' := 105) rfl (by first | omega | exact (hM _ _).1 | exact (hM _ _).2) (by first | omega | exact (hM _ _).1 | exact (hM _ _).2) (by first | omega | exact (hM _ _).1 | exact (hM _ _).2) (by first | omega | exact (hM _ _).1 | exact (hM _ _).2) (fun c102 => ?_) (fun c102 => ?_)
            · first | (exfalso; omega) | (cases c102; done) | (exfalso; simp_all; done)
            · refine je_ps jb_X12_image 1 (pc' := 106) (ls' := [_, _]) (st' := [_]) rfl ?_
              refine je_get jb_X12_image rfl (pc' := 109) rfl (jh_at (a := 45) rfl) (by rfl) (by rfl) ?_
              refine je_ps jb_X12_image 2 (pc' := 111) (ls' := [_, _]) (st' := [_, _, _]) rfl ?_
              refine je_get jb_X12_image rfl (pc' := 114) rfl (jh_at (a := 45) rfl) (by rfl) (by rfl) ?_
              refine je_ps jb_X12_image 1 (pc' := 115) (ls' := [_, _]) (st' := [_, _, _, _]) rfl ?_
              refine je_iald jb_X12_image rfl (pc' := 116) rfl (n := 4) (f := _) (jh_at (a := 49) rfl) (by first | omega | exact (hM _ _).1 | exact (hM _ _).2) (by first | omega | exact (hM _ _).1 | exact (hM _ _).2) (by first | omega | exact (hM _ _).1 | exact (hM _ _).2) ?_
              refine je_iastI jb_X12_image rfl (pc' := 117) rfl (n := 4) (a := 60) rfl (fun _ => rfl) (by first | omega | exact (hM _ _).1 | exact (hM _ _).2) (by first | omega | exact (hM _ _).1 | exact (hM _ _).2) (by first | omega | exact (hM _ _).1 | exact (hM _ _).2) ?_
              refine je_ps jb_X12_image 1 (pc' := 118) (ls' := [_, _]) (st' := [_]) rfl ?_
              refine je_get jb_X12_image rfl (pc' := 121) rfl (jh_at (a := 45) rfl) (by rfl) (by rfl) ?_
              refine je_ps jb_X12_image 2 (pc' := 123) (ls' := [_, _]) (st' := [_, _, _]) rfl ?_
              refine je_get jb_X12_image rfl (pc' := 126) rfl (jh_at (a := 45) rfl) (by rfl) (by rfl) ?_
              refine je_ps jb_X12_image 1 (pc' := 127) (ls' := [_, _]) (st' := [_, _, _, _]) rfl ?_
              refine je_iald jb_X12_image rfl (pc' := 128) rfl (n := 4) (f := _) (jh_at (a := 50) rfl) (by first | omega | exact (hM _ _).1 | exact (hM _ _).2) (by first | omega | exact (hM _ _).1 | exact (hM _ _).2) (by first | omega | exact (hM _ _).1 | exact (hM _ _).2) ?_
              refine je_iastI jb_X12_image rfl (pc' := 129) rfl (n := 4) (a := 61) rfl (fun _ => rfl) (by first | omega | exact (hM _ _).1 | exact (hM _ _).2) (by first | omega | exact (hM _ _).1 | exact (hM _ _).2) (by first | omega | exact (hM _ _).1 | exact (hM _ _).2) ?_
              refine je_iinc jb_X12_image rfl (pc' := 132) rfl rfl (ls' := [_, _]) rfl ?_
              refine je_ps jb_X12_image 1 (pc' := 100) (ls' := [_, _]) (st' := []) rfl ?_
              refine ku _ _ ⟨rfl, jh_eq ?_⟩
              rw [jU_two (by decide)]
              refine jU_c2 ?_ ?_
              · rw [jU_ne (b := 60) (a := 61) (by decide), jU_same]; exact gLay_s (by omega) (by omega) (by rw [jU_ne (b := 49) (a := 61) (by decide), jU_ne (b := 49) (a := 60) (by decide)])
              · rw [jU_ne (b := 61) (a := 60) (by decide), jU_same]; exact gLay_s (by omega) (by omega) (by rw [jU_ne (b := 50) (a := 60) (by decide), jU_ne (b := 50) (a := 61) (by decide), jU_ne (b := 50) (a := 60) (by decide)])
          · obtain ⟨rfl, rfl⟩ := gu
            refine je_ps jb_X12_image 2 (pc' := 102) (ls' := [_, _]) (st' := [_, _]) rfl ?_
            refine je_icmpge jb_X12_image rfl (t := 135) rfl (pc' := 105) rfl (by first | omega | exact (hM _ _).1 | exact (hM _ _).2) (by first | omega | exact (hM _ _).1 | exact (hM _ _).2) (by first | omega | exact (hM _ _).1 | exact (hM _ _).2) (by first | omega | exact (hM _ _).1 | exact (hM _ _).2) (fun c102 => ?_) (fun c102 => ?_)
            · obtain ⟨y1, y2, y3⟩ := J.im O p2 rfl
              refine je_ps jb_X12_image 1 (pc' := 136) (ls' := [_, _]) (st' := [_]) rfl ?_
              refine je_get jb_X12_image rfl (pc' := 139) rfl (jh_at (a := 45) rfl) (by rfl) (by rfl) ?_
              rw [show aImage A = ((aC A : Int), sIm A) from rfl]
              exact je_ret jb_X12_image rfl (by rfl) ⟨_, congrArg (fun x => some (Value.int (jI x))) y2, rfl, y1, y3⟩
            · first | (exfalso; omega) | (cases c102; done) | (exfalso; simp_all; done)
        · first | (exfalso; omega) | (cases c69; done) | (exfalso; simp_all; done)
    · first | (exfalso; omega) | (cases c43; done) | (exfalso; simp_all; done)
def oP0 (m m0 : Nat → Int → Int) : Prop := (∀ b : Nat, b ≠ 45 → m0 b = m b) ∧ (∀ j : Int, j ≠ 1 → j ≠ 2 → m0 45 j = m 45 j) ∧ m0 45 1 = m 45 26 ∧ m0 45 2 = m 45 27
def oP1 (m m1 : Nat → Int → Int) : Prop := (∀ b : Nat, b ≠ 45 → m1 b = m b) ∧ (∀ j : Int, 5 < j → m1 45 j = m 45 j) ∧ m1 45 1 = m 45 26 ∧ m1 45 2 = m 45 27 ∧ m1 45 3 = fLo (m 45 26) ∧ m1 45 4 = m 45 28 ∧ m1 45 5 = m 45 29
theorem oP1_of {m0 : Nat → Int → Int} (h : oP0 m m0) {v : Int} (hv : v = fLo (m 45 26)) {m' m1 : Nat → Int → Int} (e : m' = jU (jU m0 45 (ju (m0 45) 3 v)) 45 (ju (jU m0 45 (ju (m0 45) 3 v) 45) 4 (jU m0 45 (ju (m0 45) 3 v) 45 28))) (e1 : m1 = jU m' 45 (ju (m' 45) 5 (m' 45 29))) : oP1 m m1 := by
  obtain ⟨h1, h2, h3, h4⟩ := h
  have n : m1 45 = ju (ju (ju (m0 45) 3 v) 4 (m0 45 28)) 5 (m0 45 29) := by
    rw [e1, e]
    simp only [jU_same]
    rw [ju_ne (j := 28) (k := 3) (by decide), ju_ne (j := 29) (k := 4) (by decide), ju_ne (j := 29) (k := 3) (by decide)]
  refine ⟨fun b q => by rw [e1, e, jU_ne q, jU_ne q, jU_ne q]; exact h1 b q, fun j hj => ?_, ?_, ?_, ?_, ?_, ?_⟩
  · rw [n, ju_ne (by omega), ju_ne (by omega), ju_ne (by omega)]; exact h2 j (by omega) (by omega)
  · rw [n, ju_ne (by decide), ju_ne (by decide), ju_ne (by decide)]; exact h3
  · rw [n, ju_ne (by decide), ju_ne (by decide), ju_ne (by decide)]; exact h4
  · rw [n, ju_ne (by decide), ju_ne (by decide), ju_same]; exact hv
  · rw [n, ju_ne (by decide), ju_same]; exact h2 28 (by decide) (by decide)
  · rw [n, ju_same]; exact h2 29 (by decide) (by decide)
def oP2 (m m2 : Nat → Int → Int) : Prop := (∀ b : Nat, b ≠ 45 → b ≠ 47 → b ≠ 48 → m2 b = m b) ∧ (∀ j : Int, 5 < j → j ≠ 8 → m2 45 j = m 45 j) ∧ (m2 45 1 = m 45 26 ∧ m2 45 2 = m 45 27 ∧ m2 45 3 = fLo (m 45 26) ∧ m2 45 4 = m 45 28 ∧ m2 45 5 = m 45 29) ∧ m2 45 8 = m 45 32 ∧ (∀ p : Int, 0 ≤ p → p < 150 → m2 47 p = m 58 p) ∧ ∀ p : Int, 0 ≤ p → p < 6 → m2 48 p = m 59 p
theorem oP2_of {m1 : Nat → Int → Int} (h : oP1 m m1) {m2 : Nat → Int → Int} (e2 : m2 = jU (jU m1 47 (fLay (m1 47) (m1 58) 0 150)) 48 (fLay (m1 48) (m1 59) 0 6)) : oP2 m (jU m2 45 (ju (m2 45) 8 (m2 45 32))) := by
  obtain ⟨h1, h2, h3, h4, h5, h6, h7⟩ := h
  have n43 : m2 45 = m1 45 := by rw [e2, jU_ne (by decide), jU_ne (by decide)]
  refine ⟨fun b q1 q2 q3 => ?_, fun j hj q => ?_, ?_, ?_, fun p p0 p1 => ?_, fun p p0 p1 => ?_⟩
  · rw [jU_ne q1, e2, jU_ne q3, jU_ne q2]; exact h1 b q1
  · rw [jU_same, ju_ne q, n43]; exact h2 j hj
  · rw [jU_same, ju_ne (by decide), ju_ne (by decide), ju_ne (by decide), ju_ne (by decide), ju_ne (by decide), n43]; exact ⟨h3, h4, h5, h6, h7⟩
  · rw [jU_same, ju_same, n43]; exact h2 32 (by decide)
  · rw [jU_ne (by decide), e2, jU_ne (by decide), jU_same, fLay_in0 ⟨p0, p1⟩, h1 58 (by decide)]
  · rw [jU_ne (by decide), e2, jU_same, fLay_in0 ⟨p0, p1⟩, h1 59 (by decide)]
theorem iG.on {A : aT} (J : iG A m) (O : aOk A) (ht : aTk A = true) {m2 m3 : Nat → Int → Int} (h : oP2 m m2) (e3 : m3 = jU (jU m2 49 (fLay (m2 49) (m2 60) 0 4)) 50 (fLay (m2 50) (m2 61) 0 4)) : iG (sOn A) m3 ∧ m3 45 5 = ((aI A).2.1.1 : Int) ∧ kC m m3 := by
  obtain ⟨h1, h2, ⟨h3, h4, h5, h6, h7⟩, h8, h9, h10⟩ := h
  obtain ⟨j1, j2, j3, j4, j5, j6, j7, j8, j9, j10⟩ := J
  obtain ⟨o1, o2, o3, o4, o5⟩ := O.2.1 ht
  obtain ⟨k1, k2, k3, k4, k5⟩ := j10 ht
  have n : ∀ b : Nat, b ≠ 49 → b ≠ 50 → m3 b = m2 b := fun b q1 q2 => by rw [e3, jU_ne q2, jU_ne q1]
  have n43 := n 45 (by decide) (by decide)
  have nb : ∀ b : Nat, b ≠ 45 → b ≠ 47 → b ≠ 48 → b ≠ 49 → b ≠ 50 → m3 b = m b := fun b q1 q2 q3 q4 q5 => (n b q4 q5).trans (h1 b q1 q2 q3)
  have n58 : ∀ p : Int, 0 ≤ p → p < 4 → m3 49 p = m 60 p := fun p p0 p1 => by rw [e3, jU_ne (by decide), jU_same, fLay_in0 ⟨p0, p1⟩, h1 60 (by decide) (by decide) (by decide)]
  have n59 : ∀ p : Int, 0 ≤ p → p < 4 → m3 50 p = m 61 p := fun p p0 p1 => by rw [e3, jU_same, fLay_in0 ⟨p0, p1⟩, h1 61 (by decide) (by decide) (by decide)]
  refine ⟨⟨⟨?_, o1⟩, ?_, fun i hi => ?_, ?_, fun i hi => ?_, ?_, ?_, ?_, ?_, fun _ => ?_⟩, by rw [n43, h7]; exact k2, fun b hb => nb b (by omega) (by omega) (by omega) (by omega) (by omega)⟩
  · rw [n43, h3, h4, h5, h6]; exact ⟨k1.1, k1.2.1, by rw [k1.1]; rfl, k1.2.2⟩
  · rw [n43, h7]; exact k2
  · have hi : i < (aI A).2.1.1 := hi
    have g := k3 i hi
    refine ⟨by omega, fun p p0 p1 => ?_, ?_⟩
    · rw [n 47 (by decide) (by decide), h9 _ (by omega) (by omega)]; exact g.1 p p0 p1
    · rw [n 48 (by decide) (by decide), h10 _ (by omega) (by omega)]; exact g.2
  · rw [n43, h8]; exact k4
  · have hi : i < (aI A).2.2.1 := hi
    rw [n58 _ (by omega) (by omega), n59 _ (by omega) (by omega)]; exact k5 i hi
  · rw [n43, h2 22 (by decide) (by decide), nb 55 (by decide) (by decide) (by decide) (by decide) (by decide)]; exact j6
  · rw [nb 56 (by decide) (by decide) (by decide) (by decide) (by decide), nb 57 (by decide) (by decide) (by decide) (by decide) (by decide)]; exact j7
  · rw [nb 46 (by decide) (by decide) (by decide) (by decide) (by decide)]; exact j8
  · rw [n43, h2 25 (by decide) (by decide)]; exact j9
  · have k := j10 ht
    show gK m3 (aI A)
    unfold gK at *
    rw [n43, h2 26 (by decide) (by decide), h2 27 (by decide) (by decide), h2 28 (by decide) (by decide), h2 29 (by decide) (by decide), h2 32 (by decide) (by decide), nb 58 (by decide) (by decide) (by decide) (by decide) (by decide), nb 59 (by decide) (by decide) (by decide) (by decide) (by decide), nb 60 (by decide) (by decide) (by decide) (by decide) (by decide), nb 61 (by decide) (by decide) (by decide) (by decide) (by decide)]
    exact k
theorem of_jb0 {b : Bool} (h : jb b = 0) : b = false := by
  cases b
  · rfl
  · exact absurd h (by decide)
theorem gl_on {A : aT} (O : aOk A) (J : iG A m)  : jq sc 6 jm_X12_on [.ref 45] (jh m r T) (gQ (aOn A) m r T) := by
  have c6 := O.c6
  have fs := O.fs
  have jc := J.c
  have e25 : m 45 25 = jb (aTk A) := J.2.2.2.2.2.2.2.2.1
  have bt : 0 ≤ jb (aTk A) ∧ jb (aTk A) ≤ 1 := by cases aTk A <;> decide
  refine je_in jb_X12_on rfl (ls := [_, _]) rfl ?_
  refine je_ps jb_X12_on 1 (pc' := 1) (ls' := [_, _]) (st' := [_]) rfl ?_
  refine je_get jb_X12_on rfl (pc' := 4) rfl (jh_at (a := 45) rfl) (by rfl) (by rfl) ?_
  rw [e25]
  refine je_ifne jb_X12_on rfl (t := 14) rfl (pc' := 7) rfl (by first | omega | exact (hM _ _).1 | exact (hM _ _).2) (by first | omega | exact (hM _ _).1 | exact (hM _ _).2) (fun c4 => ?_) (fun c4 => ?_)
  · have ht : aTk A = true := by (cases h : aTk A; (rw [h] at c4; exact absurd rfl c4); rfl)
    have k26 := (J.2.2.2.2.2.2.2.2.2 ht).1.1
    have oi := (O.2.1 ht).1
    have s01 : m 45 26 = 0 ∨ m 45 26 = 1 := by rw [k26]; unfold fS at oi; omega
    refine je_ps jb_X12_on 2 (pc' := 16) (ls' := [_, _]) (st' := [_, _]) rfl ?_
    refine je_get jb_X12_on rfl (pc' := 19) rfl (jh_at (a := 45) rfl) (by rfl) (by rfl) ?_
    refine je_putI jb_X12_on rfl (pc' := 22) rfl (j := 1) (a := 45) rfl (by rfl) (by rfl) (by rcases s01 with h | h; (rw [h]; rfl); (rw [h]; rfl)) (by rfl) ?_
    refine je_ps jb_X12_on 2 (pc' := 24) (ls' := [_, _]) (st' := [_, _]) rfl ?_
    refine je_get jb_X12_on rfl (pc' := 27) rfl (jh_at (a := 45) rfl) (by rfl) (by rfl) ?_
    refine je_putI jb_X12_on rfl (pc' := 30) rfl (j := 2) (a := 45) rfl (by rfl) (by rfl) (by rfl) (by rfl) ?_
    refine je_gen (P := fun m' => oP0 m m') ?_ (fun m0 p0 => ?_)
    · refine ⟨fun b hb => by rw [jU_ne hb, jU_ne hb], fun j h1 h2 => by simp only [jU_same]; rw [ju_ne h2, ju_ne h1], by simp [jU, ju], by simp [jU, ju]⟩
    have p26 := p0.2.2.1
    refine je_ps jb_X12_on 2 (pc' := 32) (ls' := [_, _]) (st' := [_, _]) rfl ?_
    refine je_get jb_X12_on rfl (pc' := 35) rfl (jh_at (a := 45) rfl) (by rfl) (by rfl) ?_
    refine je_ifeq jb_X12_on rfl (t := 42) rfl (pc' := 38) rfl (by first | omega | exact (hM _ _).1 | exact (hM _ _).2) (by first | omega | exact (hM _ _).1 | exact (hM _ _).2) (fun c35 => ?_) (fun c35 => ?_)
    · refine je_ps jb_X12_on 1 (pc' := 44) (ls' := [_, _]) (st' := [_, _]) rfl ?_
      refine je_putI jb_X12_on rfl (pc' := 47) rfl (j := 3) (a := 45) rfl (by rfl) (by rfl) (by rfl) (by rfl) ?_
      refine je_ps jb_X12_on 2 (pc' := 49) (ls' := [_, _]) (st' := [_, _]) rfl ?_
      refine je_get jb_X12_on rfl (pc' := 52) rfl (jh_at (a := 45) rfl) (by rfl) (by rfl) ?_
      refine je_putI jb_X12_on rfl (pc' := 55) rfl (j := 4) (a := 45) rfl (by rfl) (by rfl) (by rfl) (by rfl) ?_
      refine je_ps jb_X12_on 2 (pc' := 57) (ls' := [_, _]) (st' := [_, _]) rfl ?_
      refine je_get jb_X12_on rfl (pc' := 60) rfl (jh_at (a := 45) rfl) (by rfl) (by rfl) ?_
      refine je_putI jb_X12_on rfl (pc' := 63) rfl (j := 5) (a := 45) rfl (by rfl) (by rfl) (by rfl) (by rfl) ?_
      refine je_gen (P := fun m' => oP1 m m') (oP1_of p0 (by unfold fLo; first | (rw [if_pos (by omega)]; done) | (rw [if_neg (by omega)]; done)) rfl rfl) (fun m1 p1 => ?_)
      refine je_ps jb_X12_on 2 (pc' := 65) (ls' := [_, _]) (st' := []) rfl ?_
      refine je_loop (fun (v : Nat) ls σ' => ls = [.ref 45, .int (jI v)] ∧ σ' = jh (jU m1 47 (fLay (m1 47) (m1 58) 0 v)) r T) (150) ⟨rfl, jh_eq (jU_sf (by rw [show ((0 : Nat) : Int) = 0 from rfl, gLay_0])).symm⟩ (fun v hv ls σ' gv kv => ?_) (fun ls σ' gv => ?_)
      · obtain ⟨rfl, rfl⟩ := gv
        refine je_ps jb_X12_on 2 (pc' := 69) (ls' := [_, _]) (st' := [_, _]) rfl ?_
        refine je_icmpge jb_X12_on rfl (t := 90) rfl (pc' := 72) rfl (by first | omega | exact (hM _ _).1 | exact (hM _ _).2) (by first | omega | exact (hM _ _).1 | exact (hM _ _).2) (by first | omega | exact (hM _ _).1 | exact (hM _ _).2) (by first | omega | exact (hM _ _).1 | exact (hM _ _).2) (fun c69 => ?_) (fun c69 => ?_)
        · first | (exfalso; omega) | (cases c69; done) | (exfalso; simp_all; done)
        · refine je_ps jb_X12_on 1 (pc' := 73) (ls' := [_, _]) (st' := [_]) rfl ?_
          refine je_get jb_X12_on rfl (pc' := 76) rfl (jh_at (a := 45) rfl) (by rfl) (by rfl) ?_
          refine je_ps jb_X12_on 2 (pc' := 78) (ls' := [_, _]) (st' := [_, _, _]) rfl ?_
          refine je_get jb_X12_on rfl (pc' := 81) rfl (jh_at (a := 45) rfl) (by rfl) (by rfl) ?_
          refine je_ps jb_X12_on 1 (pc' := 82) (ls' := [_, _]) (st' := [_, _, _, _]) rfl ?_
          refine je_iald jb_X12_on rfl (pc' := 83) rfl (n := 150) (f := _) (jh_at (a := 58) rfl) (by first | omega | exact (hM _ _).1 | exact (hM _ _).2) (by first | omega | exact (hM _ _).1 | exact (hM _ _).2) (by first | omega | exact (hM _ _).1 | exact (hM _ _).2) ?_
          refine je_iastI jb_X12_on rfl (pc' := 84) rfl (n := 225) (a := 47) rfl (fun _ => rfl) (by first | omega | exact (hM _ _).1 | exact (hM _ _).2) (by first | omega | exact (hM _ _).1 | exact (hM _ _).2) (by first | omega | exact (hM _ _).1 | exact (hM _ _).2) ?_
          refine je_iinc jb_X12_on rfl (pc' := 87) rfl rfl (ls' := [_, _]) rfl ?_
          refine je_ps jb_X12_on 1 (pc' := 65) (ls' := [_, _]) (st' := []) rfl ?_
          refine kv _ _ ⟨rfl, jh_eq ?_⟩
          rw [jU_same, jU_jU]
          exact congrArg (jU _ 47) (gLay_s (by omega) (by omega) (by rw [jU_ne (b := 58) (a := 47) (by decide)]))
      · obtain ⟨rfl, rfl⟩ := gv
        refine je_ps jb_X12_on 2 (pc' := 69) (ls' := [_, _]) (st' := [_, _]) rfl ?_
        refine je_icmpge jb_X12_on rfl (t := 90) rfl (pc' := 72) rfl (by first | omega | exact (hM _ _).1 | exact (hM _ _).2) (by first | omega | exact (hM _ _).1 | exact (hM _ _).2) (by first | omega | exact (hM _ _).1 | exact (hM _ _).2) (by first | omega | exact (hM _ _).1 | exact (hM _ _).2) (fun c69 => ?_) (fun c69 => ?_)
        · refine je_ps jb_X12_on 2 (pc' := 92) (ls' := [_, _]) (st' := []) rfl ?_
          refine je_loop (fun (w : Nat) ls σ' => ls = [.ref 45, .int (jI w)] ∧ σ' = jh (jU (jU m1 47 (fLay (m1 47) (m1 58) 0 (150 : Nat))) 48 (fLay (m1 48) (m1 59) 0 w)) r T) (6) ⟨rfl, jh_eq (jU_sf (by rw [show ((0 : Nat) : Int) = 0 from rfl, gLay_0]; exact (jU_ne (by decide)).symm)).symm⟩ (fun w hw ls σ' gw kw => ?_) (fun ls σ' gw => ?_)
          · obtain ⟨rfl, rfl⟩ := gw
            refine je_ps jb_X12_on 2 (pc' := 95) (ls' := [_, _]) (st' := [_, _]) rfl ?_
            refine je_icmpge jb_X12_on rfl (t := 116) rfl (pc' := 98) rfl (by first | omega | exact (hM _ _).1 | exact (hM _ _).2) (by first | omega | exact (hM _ _).1 | exact (hM _ _).2) (by first | omega | exact (hM _ _).1 | exact (hM _ _).2) (by first | omega | exact (hM _ _).1 | exact (hM _ _).2) (fun c95 => ?_) (fun c95 => ?_)
            · first | (exfalso; omega) | (cases c95; done) | (exfalso; simp_all; done)
            · refine je_ps jb_X12_on 1 (pc' := 99) (ls' := [_, _]) (st' := [_]) rfl ?_
              refine je_get jb_X12_on rfl (pc' := 102) rfl (jh_at (a := 45) rfl) (by rfl) (by rfl) ?_
              refine je_ps jb_X12_on 2 (pc' := 104) (ls' := [_, _]) (st' := [_, _, _]) rfl ?_
              refine je_get jb_X12_on rfl (pc' := 107) rfl (jh_at (a := 45) rfl) (by rfl) (by rfl) ?_
              refine je_ps jb_X12_on 1 (pc' := 108) (ls' := [_, _]) (st' := [_, _, _, _]) rfl ?_
              refine je_iald jb_X12_on rfl (pc' := 109) rfl (n := 6) (f := _) (jh_at (a := 59) rfl) (by first | omega | exact (hM _ _).1 | exact (hM _ _).2) (by first | omega | exact (hM _ _).1 | exact (hM _ _).2) (by first | omega | exact (hM _ _).1 | exact (hM _ _).2) ?_
              refine je_iastI jb_X12_on rfl (pc' := 110) rfl (n := 9) (a := 48) rfl (fun _ => rfl) (by first | omega | exact (hM _ _).1 | exact (hM _ _).2) (by first | omega | exact (hM _ _).1 | exact (hM _ _).2) (by first | omega | exact (hM _ _).1 | exact (hM _ _).2) ?_
              refine je_iinc jb_X12_on rfl (pc' := 113) rfl rfl (ls' := [_, _]) rfl ?_
              refine je_ps jb_X12_on 1 (pc' := 92) (ls' := [_, _]) (st' := []) rfl ?_
              refine kw _ _ ⟨rfl, jh_eq ?_⟩
              rw [jU_same, jU_jU]
              exact congrArg (jU _ 48) (gLay_s (by omega) (by omega) (by rw [jU_ne (b := 59) (a := 48) (by decide), jU_ne (b := 59) (a := 47) (by decide)]))
          · obtain ⟨rfl, rfl⟩ := gw
            refine je_ps jb_X12_on 2 (pc' := 95) (ls' := [_, _]) (st' := [_, _]) rfl ?_
            refine je_icmpge jb_X12_on rfl (t := 116) rfl (pc' := 98) rfl (by first | omega | exact (hM _ _).1 | exact (hM _ _).2) (by first | omega | exact (hM _ _).1 | exact (hM _ _).2) (by first | omega | exact (hM _ _).1 | exact (hM _ _).2) (by first | omega | exact (hM _ _).1 | exact (hM _ _).2) (fun c95 => ?_) (fun c95 => ?_)
            · refine je_ps jb_X12_on 2 (pc' := 118) (ls' := [_, _]) (st' := [_, _]) rfl ?_
              refine je_get jb_X12_on rfl (pc' := 121) rfl (jh_at (a := 45) rfl) (by rfl) (by rfl) ?_
              refine je_putI jb_X12_on rfl (pc' := 124) rfl (j := 8) (a := 45) rfl (by rfl) (by rfl) (by rfl) (by rfl) ?_
              refine je_gen (P := fun m' => oP2 m m') (oP2_of p1 rfl) (fun m2 p2 => ?_)
              refine je_ps jb_X12_on 2 (pc' := 126) (ls' := [_, _]) (st' := []) rfl ?_
              refine je_loop (fun (u : Nat) ls σ' => ls = [.ref 45, .int (jI u)] ∧ σ' = jh (jU (jU m2 49 (fLay (m2 49) (m2 60) 0 u)) 50 (fLay (m2 50) (m2 61) 0 u)) r T) (4) ⟨rfl, jh_eq (by rw [show ((0 : Nat) : Int) = 0 from rfl, gLay_0, gLay_0, jU_self]; exact (jU_self m2 50).symm)⟩ (fun u hu ls σ' gu ku => ?_) (fun ls σ' gu => ?_)
              · obtain ⟨rfl, rfl⟩ := gu
                refine je_ps jb_X12_on 2 (pc' := 128) (ls' := [_, _]) (st' := [_, _]) rfl ?_
                refine je_icmpge jb_X12_on rfl (t := 161) rfl (pc' := 131) rfl (by first | omega | exact (hM _ _).1 | exact (hM _ _).2) (by first | omega | exact (hM _ _).1 | exact (hM _ _).2) (by first | omega | exact (hM _ _).1 | exact (hM _ _).2) (by first | omega | exact (hM _ _).1 | exact (hM _ _).2) (fun c128 => ?_) (fun c128 => ?_)
                · first | (exfalso; omega) | (cases c128; done) | (exfalso; simp_all; done)
                · refine je_ps jb_X12_on 1 (pc' := 132) (ls' := [_, _]) (st' := [_]) rfl ?_
                  refine je_get jb_X12_on rfl (pc' := 135) rfl (jh_at (a := 45) rfl) (by rfl) (by rfl) ?_
                  refine je_ps jb_X12_on 2 (pc' := 137) (ls' := [_, _]) (st' := [_, _, _]) rfl ?_
                  refine je_get jb_X12_on rfl (pc' := 140) rfl (jh_at (a := 45) rfl) (by rfl) (by rfl) ?_
                  refine je_ps jb_X12_on 1 (pc' := 141) (ls' := [_, _]) (st' := [_, _, _, _]) rfl ?_
                  refine je_iald jb_X12_on rfl (pc' := 142) rfl (n := 4) (f := _) (jh_at (a := 60) rfl) (by first | omega | exact (hM _ _).1 | exact (hM _ _).2) (by first | omega | exact (hM _ _).1 | exact (hM _ _).2) (by first | omega | exact (hM _ _).1 | exact (hM _ _).2) ?_
                  refine je_iastI jb_X12_on rfl (pc' := 143) rfl (n := 4) (a := 49) rfl (fun _ => rfl) (by first | omega | exact (hM _ _).1 | exact (hM _ _).2) (by first | omega | exact (hM _ _).1 | exact (hM _ _).2) (by first | omega | exact (hM _ _).1 | exact (hM _ _).2) ?_
                  refine je_ps jb_X12_on 1 (pc' := 144) (ls' := [_, _]) (st' := [_]) rfl ?_
                  refine je_get jb_X12_on rfl (pc' := 147) rfl (jh_at (a := 45) rfl) (by rfl) (by rfl) ?_
                  refine je_ps jb_X12_on 2 (pc' := 149) (ls' := [_, _]) (st' := [_, _, _]) rfl ?_
                  refine je_get jb_X12_on rfl (pc' := 152) rfl (jh_at (a := 45) rfl) (by rfl) (by rfl) ?_
                  refine je_ps jb_X12_on 1 (pc' := 153) (ls' := [_, _]) (st' := [_, _, _, _]) rfl ?_
                  refine je_iald jb_X12_on rfl (pc' := 154) rfl (n := 4) (f := _) (jh_at (a := 61) rfl) (by first | omega | exact (hM _ _).1 | exact (hM _ _).2) (by first | omega | exact (hM _ _).1 | exact (hM _ _).2) (by first | omega | exact (hM _ _).1 | exact (hM _ _).2) ?_
                  refine je_iastI jb_X12_on rfl (pc' := 155) rfl (n := 4) (a := 50) rfl (fun _ => rfl) (by first | omega | exact (hM _ _).1 | exact (hM _ _).2) (by first | omega | exact (hM _ _).1 | exact (hM _ _).2) (by first | omega | exact (hM _ _).1 | exact (hM _ _).2) ?_
                  refine je_iinc jb_X12_on rfl (pc' := 158) rfl rfl (ls' := [_, _]) rfl ?_
                  refine je_ps jb_X12_on 1 (pc' := 126) (ls' := [_, _]) (st' := []) rfl ?_
                  refine ku _ _ ⟨rfl, jh_eq ?_⟩
                  rw [jU_two (by decide)]
                  refine jU_c2 ?_ ?_
                  · rw [jU_ne (b := 49) (a := 50) (by decide), jU_same]; exact gLay_s (by omega) (by omega) (by rw [jU_ne (b := 60) (a := 50) (by decide), jU_ne (b := 60) (a := 49) (by decide)])
                  · rw [jU_ne (b := 50) (a := 49) (by decide), jU_same]; exact gLay_s (by omega) (by omega) (by rw [jU_ne (b := 61) (a := 49) (by decide), jU_ne (b := 61) (a := 50) (by decide), jU_ne (b := 61) (a := 49) (by decide)])
              · obtain ⟨rfl, rfl⟩ := gu
                refine je_ps jb_X12_on 2 (pc' := 128) (ls' := [_, _]) (st' := [_, _]) rfl ?_
                refine je_icmpge jb_X12_on rfl (t := 161) rfl (pc' := 131) rfl (by first | omega | exact (hM _ _).1 | exact (hM _ _).2) (by first | omega | exact (hM _ _).1 | exact (hM _ _).2) (by first | omega | exact (hM _ _).1 | exact (hM _ _).2) (by first | omega | exact (hM _ _).1 | exact (hM _ _).2) (fun c128 => ?_) (fun c128 => ?_)
                · obtain ⟨y1, y2, y3⟩ := J.on O ht p2 rfl
                  refine je_ps jb_X12_on 1 (pc' := 162) (ls' := [_, _]) (st' := [_]) rfl ?_
                  refine je_get jb_X12_on rfl (pc' := 165) rfl (jh_at (a := 45) rfl) (by rfl) (by rfl) ?_
                  rw [show aOn A = (((aI A).2.1.1 : Int), sOn A) from by unfold aOn; rw [if_pos ht]]
                  exact je_ret jb_X12_on rfl (by rfl) ⟨_, congrArg (fun x => some (Value.int (jI x))) y2, rfl, y1, y3⟩
                · first | (exfalso; omega) | (cases c128; done) | (exfalso; simp_all; done)
            · first | (exfalso; omega) | (cases c95; done) | (exfalso; simp_all; done)
        · first | (exfalso; omega) | (cases c69; done) | (exfalso; simp_all; done)
    · refine je_ps jb_X12_on 2 (pc' := 44) (ls' := [_, _]) (st' := [_, _]) rfl ?_
      refine je_putI jb_X12_on rfl (pc' := 47) rfl (j := 3) (a := 45) rfl (by rfl) (by rfl) (by rfl) (by rfl) ?_
      refine je_ps jb_X12_on 2 (pc' := 49) (ls' := [_, _]) (st' := [_, _]) rfl ?_
      refine je_get jb_X12_on rfl (pc' := 52) rfl (jh_at (a := 45) rfl) (by rfl) (by rfl) ?_
      refine je_putI jb_X12_on rfl (pc' := 55) rfl (j := 4) (a := 45) rfl (by rfl) (by rfl) (by rfl) (by rfl) ?_
      refine je_ps jb_X12_on 2 (pc' := 57) (ls' := [_, _]) (st' := [_, _]) rfl ?_
      refine je_get jb_X12_on rfl (pc' := 60) rfl (jh_at (a := 45) rfl) (by rfl) (by rfl) ?_
      refine je_putI jb_X12_on rfl (pc' := 63) rfl (j := 5) (a := 45) rfl (by rfl) (by rfl) (by rfl) (by rfl) ?_
      refine je_gen (P := fun m' => oP1 m m') (oP1_of p0 (by unfold fLo; first | (rw [if_pos (by omega)]; done) | (rw [if_neg (by omega)]; done)) rfl rfl) (fun m1 p1 => ?_)
      refine je_ps jb_X12_on 2 (pc' := 65) (ls' := [_, _]) (st' := []) rfl ?_
      refine je_loop (fun (v : Nat) ls σ' => ls = [.ref 45, .int (jI v)] ∧ σ' = jh (jU m1 47 (fLay (m1 47) (m1 58) 0 v)) r T) (150) ⟨rfl, jh_eq (jU_sf (by rw [show ((0 : Nat) : Int) = 0 from rfl, gLay_0])).symm⟩ (fun v hv ls σ' gv kv => ?_) (fun ls σ' gv => ?_)
      · obtain ⟨rfl, rfl⟩ := gv
        refine je_ps jb_X12_on 2 (pc' := 69) (ls' := [_, _]) (st' := [_, _]) rfl ?_
        refine je_icmpge jb_X12_on rfl (t := 90) rfl (pc' := 72) rfl (by first | omega | exact (hM _ _).1 | exact (hM _ _).2) (by first | omega | exact (hM _ _).1 | exact (hM _ _).2) (by first | omega | exact (hM _ _).1 | exact (hM _ _).2) (by first | omega | exact (hM _ _).1 | exact (hM _ _).2) (fun c69 => ?_) (fun c69 => ?_)
        · first | (exfalso; omega) | (cases c69; done) | (exfalso; simp_all; done)
        · refine je_ps jb_X12_on 1 (pc' := 73) (ls' := [_, _]) (st' := [_]) rfl ?_
          refine je_get jb_X12_on rfl (pc' := 76) rfl (jh_at (a := 45) rfl) (by rfl) (by rfl) ?_
          refine je_ps jb_X12_on 2 (pc' := 78) (ls' := [_, _]) (st' := [_, _, _]) rfl ?_
          refine je_get jb_X12_on rfl (pc' := 81) rfl (jh_at (a := 45) rfl) (by rfl) (by rfl) ?_
          refine je_ps jb_X12_on 1 (pc' := 82) (ls' := [_, _]) (st' := [_, _, _, _]) rfl ?_
          refine je_iald jb_X12_on rfl (pc' := 83) rfl (n := 150) (f := _) (jh_at (a := 58) rfl) (by first | omega | exact (hM _ _).1 | exact (hM _ _).2) (by first | omega | exact (hM _ _).1 | exact (hM _ _).2) (by first | omega | exact (hM _ _).1 | exact (hM _ _).2) ?_
          refine je_iastI jb_X12_on rfl (pc' := 84) rfl (n := 225) (a := 47) rfl (fun _ => rfl) (by first | omega | exact (hM _ _).1 | exact (hM _ _).2) (by first | omega | exact (hM _ _).1 | exact (hM _ _).2) (by first | omega | exact (hM _ _).1 | exact (hM _ _).2) ?_
          refine je_iinc jb_X12_on rfl (pc' := 87) rfl rfl (ls' := [_, _]) rfl ?_
          refine je_ps jb_X12_on 1 (pc' := 65) (ls' := [_, _]) (st' := []) rfl ?_
          refine kv _ _ ⟨rfl, jh_eq ?_⟩
          rw [jU_same, jU_jU]
          exact congrArg (jU _ 47) (gLay_s (by omega) (by omega) (by rw [jU_ne (b := 58) (a := 47) (by decide)]))
      · obtain ⟨rfl, rfl⟩ := gv
        refine je_ps jb_X12_on 2 (pc' := 69) (ls' := [_, _]) (st' := [_, _]) rfl ?_
        refine je_icmpge jb_X12_on rfl (t := 90) rfl (pc' := 72) rfl (by first | omega | exact (hM _ _).1 | exact (hM _ _).2) (by first | omega | exact (hM _ _).1 | exact (hM _ _).2) (by first | omega | exact (hM _ _).1 | exact (hM _ _).2) (by first | omega | exact (hM _ _).1 | exact (hM _ _).2) (fun c69 => ?_) (fun c69 => ?_)
        · refine je_ps jb_X12_on 2 (pc' := 92) (ls' := [_, _]) (st' := []) rfl ?_
          refine je_loop (fun (w : Nat) ls σ' => ls = [.ref 45, .int (jI w)] ∧ σ' = jh (jU (jU m1 47 (fLay (m1 47) (m1 58) 0 (150 : Nat))) 48 (fLay (m1 48) (m1 59) 0 w)) r T) (6) ⟨rfl, jh_eq (jU_sf (by rw [show ((0 : Nat) : Int) = 0 from rfl, gLay_0]; exact (jU_ne (by decide)).symm)).symm⟩ (fun w hw ls σ' gw kw => ?_) (fun ls σ' gw => ?_)
          · obtain ⟨rfl, rfl⟩ := gw
            refine je_ps jb_X12_on 2 (pc' := 95) (ls' := [_, _]) (st' := [_, _]) rfl ?_
            refine je_icmpge jb_X12_on rfl (t := 116) rfl (pc' := 98) rfl (by first | omega | exact (hM _ _).1 | exact (hM _ _).2) (by first | omega | exact (hM _ _).1 | exact (hM _ _).2) (by first | omega | exact (hM _ _).1 | exact (hM _ _).2) (by first | omega | exact (hM _ _).1 | exact (hM _ _).2) (fun c95 => ?_) (fun c95 => ?_)
            · first | (exfalso; omega) | (cases c95; done) | (exfalso; simp_all; done)
            · refine je_ps jb_X12_on 1 (pc' := 99) (ls' := [_, _]) (st' := [_]) rfl ?_
              refine je_get jb_X12_on rfl (pc' := 102) rfl (jh_at (a := 45) rfl) (by rfl) (by rfl) ?_
              refine je_ps jb_X12_on 2 (pc' := 104) (ls' := [_, _]) (st' := [_, _, _]) rfl ?_
              refine je_get jb_X12_on rfl (pc' := 107) rfl (jh_at (a := 45) rfl) (by rfl) (by rfl) ?_
              refine je_ps jb_X12_on 1 (pc' := 108) (ls' := [_, _]) (st' := [_, _, _, _]) rfl ?_
              refine je_iald jb_X12_on rfl (pc' := 109) rfl (n := 6) (f := _) (jh_at (a := 59) rfl) (by first | omega | exact (hM _ _).1 | exact (hM _ _).2) (by first | omega | exact (hM _ _).1 | exact (hM _ _).2) (by first | omega | exact (hM _ _).1 | exact (hM _ _).2) ?_
              refine je_iastI jb_X12_on rfl (pc' := 110) rfl (n := 9) (a := 48) rfl (fun _ => rfl) (by first | omega | exact (hM _ _).1 | exact (hM _ _).2) (by first | omega | exact (hM _ _).1 | exact (hM _ _).2) (by first | omega | exact (hM _ _).1 | exact (hM _ _).2) ?_
              refine je_iinc jb_X12_on rfl (pc' := 113) rfl rfl (ls' := [_, _]) rfl ?_
              refine je_ps jb_X12_on 1 (pc' := 92) (ls' := [_, _]) (st' := []) rfl ?_
              refine kw _ _ ⟨rfl, jh_eq ?_⟩
              rw [jU_same, jU_jU]
              exact congrArg (jU _ 48) (gLay_s (by omega) (by omega) (by rw [jU_ne (b := 59) (a := 48) (by decide), jU_ne (b := 59) (a := 47) (by decide)]))
          · obtain ⟨rfl, rfl⟩ := gw
            refine je_ps jb_X12_on 2 (pc' := 95) (ls' := [_, _]) (st' := [_, _]) rfl ?_
            refine je_icmpge jb_X12_on rfl (t := 116) rfl (pc' := 98) rfl (by first | omega | exact (hM _ _).1 | exact (hM _ _).2) (by first | omega | exact (hM _ _).1 | exact (hM _ _).2) (by first | omega | exact (hM _ _).1 | exact (hM _ _).2) (by first | omega | exact (hM _ _).1 | exact (hM _ _).2) (fun c95 => ?_) (fun c95 => ?_)
            · refine je_ps jb_X12_on 2 (pc' := 118) (ls' := [_, _]) (st' := [_, _]) rfl ?_
              refine je_get jb_X12_on rfl (pc' := 121) rfl (jh_at (a := 45) rfl) (by rfl) (by rfl) ?_
              refine je_putI jb_X12_on rfl (pc' := 124) rfl (j := 8) (a := 45) rfl (by rfl) (by rfl) (by rfl) (by rfl) ?_
              refine je_gen (P := fun m' => oP2 m m') (oP2_of p1 rfl) (fun m2 p2 => ?_)
              refine je_ps jb_X12_on 2 (pc' := 126) (ls' := [_, _]) (st' := []) rfl ?_
              refine je_loop (fun (u : Nat) ls σ' => ls = [.ref 45, .int (jI u)] ∧ σ' = jh (jU (jU m2 49 (fLay (m2 49) (m2 60) 0 u)) 50 (fLay (m2 50) (m2 61) 0 u)) r T) (4) ⟨rfl, jh_eq (by rw [show ((0 : Nat) : Int) = 0 from rfl, gLay_0, gLay_0, jU_self]; exact (jU_self m2 50).symm)⟩ (fun u hu ls σ' gu ku => ?_) (fun ls σ' gu => ?_)
              · obtain ⟨rfl, rfl⟩ := gu
                refine je_ps jb_X12_on 2 (pc' := 128) (ls' := [_, _]) (st' := [_, _]) rfl ?_
                refine je_icmpge jb_X12_on rfl (t := 161) rfl (pc' := 131) rfl (by first | omega | exact (hM _ _).1 | exact (hM _ _).2) (by first | omega | exact (hM _ _).1 | exact (hM _ _).2) (by first | omega | exact (hM _ _).1 | exact (hM _ _).2) (by first | omega | exact (hM _ _).1 | exact (hM _ _).2) (fun c128 => ?_) (fun c128 => ?_)
                · first | (exfalso; omega) | (cases c128; done) | (exfalso; simp_all; done)
                · refine je_ps jb_X12_on 1 (pc' := 132) (ls' := [_, _]) (st' := [_]) rfl ?_
                  refine je_get jb_X12_on rfl (pc' := 135) rfl (jh_at (a := 45) rfl) (by rfl) (by rfl) ?_
                  refine je_ps jb_X12_on 2 (pc' := 137) (ls' := [_, _]) (st' := [_, _, _]) rfl ?_
                  refine je_get jb_X12_on rfl (pc' := 140) rfl (jh_at (a := 45) rfl) (by rfl) (by rfl) ?_
                  refine je_ps jb_X12_on 1 (pc' := 141) (ls' := [_, _]) (st' := [_, _, _, _]) rfl ?_
                  refine je_iald jb_X12_on rfl (pc' := 142) rfl (n := 4) (f := _) (jh_at (a := 60) rfl) (by first | omega | exact (hM _ _).1 | exact (hM _ _).2) (by first | omega | exact (hM _ _).1 | exact (hM _ _).2) (by first | omega | exact (hM _ _).1 | exact (hM _ _).2) ?_
                  refine je_iastI jb_X12_on rfl (pc' := 143) rfl (n := 4) (a := 49) rfl (fun _ => rfl) (by first | omega | exact (hM _ _).1 | exact (hM _ _).2) (by first | omega | exact (hM _ _).1 | exact (hM _ _).2) (by first | omega | exact (hM _ _).1 | exact (hM _ _).2) ?_
                  refine je_ps jb_X12_on 1 (pc' := 144) (ls' := [_, _]) (st' := [_]) rfl ?_
                  refine je_get jb_X12_on rfl (pc' := 147) rfl (jh_at (a := 45) rfl) (by rfl) (by rfl) ?_
                  refine je_ps jb_X12_on 2 (pc' := 149) (ls' := [_, _]) (st' := [_, _, _]) rfl ?_
                  refine je_get jb_X12_on rfl (pc' := 152) rfl (jh_at (a := 45) rfl) (by rfl) (by rfl) ?_
                  refine je_ps jb_X12_on 1 (pc' := 153) (ls' := [_, _]) (st' := [_, _, _, _]) rfl ?_
                  refine je_iald jb_X12_on rfl (pc' := 154) rfl (n := 4) (f := _) (jh_at (a := 61) rfl) (by first | omega | exact (hM _ _).1 | exact (hM _ _).2) (by first | omega | exact (hM _ _).1 | exact (hM _ _).2) (by first | omega | exact (hM _ _).1 | exact (hM _ _).2) ?_
                  refine je_iastI jb_X12_on rfl (pc' := 155) rfl (n := 4) (a := 50) rfl (fun _ => rfl) (by first | omega | exact (hM _ _).1 | exact (hM _ _).2) (by first | omega | exact (hM _ _).1 | exact (hM _ _).2) (by first | omega | exact (hM _ _).1 | exact (hM _ _).2) ?_
                  refine je_iinc jb_X12_on rfl (pc' := 158) rfl rfl (ls' := [_, _]) rfl ?_
                  refine je_ps jb_X12_on 1 (pc' := 126) (ls' := [_, _]) (st' := []) rfl ?_
                  refine ku _ _ ⟨rfl, jh_eq ?_⟩
                  rw [jU_two (by decide)]
                  refine jU_c2 ?_ ?_
                  · rw [jU_ne (b := 49) (a := 50) (by decide), jU_same]; exact gLay_s (by omega) (by omega) (by rw [jU_ne (b := 60) (a := 50) (by decide), jU_ne (b := 60) (a := 49) (by decide)])
                  · rw [jU_ne (b := 50) (a := 49) (by decide), jU_same]; exact gLay_s (by omega) (by omega) (by rw [jU_ne (b := 61) (a := 49) (by decide), jU_ne (b := 61) (a := 50) (by decide), jU_ne (b := 61) (a := 49) (by decide)])
              · obtain ⟨rfl, rfl⟩ := gu
                refine je_ps jb_X12_on 2 (pc' := 128) (ls' := [_, _]) (st' := [_, _]) rfl ?_
                refine je_icmpge jb_X12_on rfl (t := 161) rfl (pc' := 131) rfl (by first | omega | exact (hM _ _).1 | exact (hM _ _).2) (by first | omega | exact (hM _ _).1 | exact (hM _ _).2) (by first | omega | exact (hM _ _).1 | exact (hM _ _).2) (by first | omega | exact (hM _ _).1 | exact (hM _ _).2) (fun c128 => ?_) (fun c128 => ?_)
                · obtain ⟨y1, y2, y3⟩ := J.on O ht p2 rfl
                  refine je_ps jb_X12_on 1 (pc' := 162) (ls' := [_, _]) (st' := [_]) rfl ?_
                  refine je_get jb_X12_on rfl (pc' := 165) rfl (jh_at (a := 45) rfl) (by rfl) (by rfl) ?_
                  rw [show aOn A = (((aI A).2.1.1 : Int), sOn A) from by unfold aOn; rw [if_pos ht]]
                  exact je_ret jb_X12_on rfl (by rfl) ⟨_, congrArg (fun x => some (Value.int (jI x))) y2, rfl, y1, y3⟩
                · first | (exfalso; omega) | (cases c128; done) | (exfalso; simp_all; done)
            · first | (exfalso; omega) | (cases c95; done) | (exfalso; simp_all; done)
        · first | (exfalso; omega) | (cases c69; done) | (exfalso; simp_all; done)
  · refine je_ps jb_X12_on 2 (pc' := 10) (ls' := [_, _]) (st' := [_, _]) rfl ?_
    refine je_cvP' jb_X12_on rfl (pc' := 13) rfl (jh_at (a := 45) rfl) (by rfl) (by first | decide | exact Nat.ble_eq_true_of_le (by omega)) (c_X12_refused (by omega)) (st' := [_]) rfl ?_
    rw [show aOn A = aRef A (-3) from by unfold aOn; rw [if_neg (by rw [of_jb0 c4]; decide)]]
    exact je_ret jb_X12_on rfl (by rfl) ⟨_, rfl, rfl, J.ref (by omega), (kC.rfl' m).u (by decide) _⟩
end C75
