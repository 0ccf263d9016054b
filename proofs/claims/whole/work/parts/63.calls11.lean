/-! CALLS of the class: the image -/
section C63
variable {sc : Nat × (Nat → Int32)} {m : Nat → Int → Int} {r : Nat → Nat → Value} {T : jx_H} {σ : jx_H}
theorem cpW_at {K : Nat} {L : Nat → Int → Int} {e : Nat → Int} : ∀ v : Nat, K + v ≤ 13 → ∀ i, i < v → cpW m K L e v (jwl (K + i)) = L i ∧ cpW m K L e v (jwa (K + i)) 2 = e i
  | 0, _, i, hi => by omega
  | v + 1, hv, i, hi => by
    show jW (cpW m K L e v) (K + v) (L v) (e v) (jwl (K + i)) = L i ∧ jW (cpW m K L e v) (K + v) (L v) (e v) (jwa (K + i)) 2 = e i
    by_cases c : i = v
    · subst c
      rw [jW_L (by omega), jW_E]
      exact ⟨rfl, rfl⟩
    · have z := jw_inj (show K + i < 13 by omega) (show K + v < 13 by omega) (by omega)
      have z2 := jw_ne (show K + i < 13 by omega) (show K + v < 13 by omega)
      have z3 := jw_ne (show K + v < 13 by omega) (show K + i < 13 by omega)
      rw [jW_ne z.1 z2.2.1, jW_ne (fun q => z3.2.1 q.symm) z.2]
      exact cpW_at v (by omega) i (by omega)
theorem cpW_o {K b : Nat} {L : Nat → Int → Int} {e : Nat → Int} : ∀ v : Nat, (∀ i, i < v → b ≠ jwl (K + i) ∧ b ≠ jwa (K + i)) → cpW m K L e v b = m b
  | 0, _ => rfl
  | v + 1, h => by
    show jW (cpW m K L e v) (K + v) (L v) (e v) b = m b
    rw [jW_ne (h v (by omega)).1 (h v (by omega)).2]
    exact cpW_o v (fun i hi => h i (by omega))
theorem cpW_z {K j : Nat} (hj : j < 13) {L : Nat → Int → Int} {e : Nat → Int} (z : jZ m j) : ∀ v : Nat, K + v ≤ 13 → (∀ i, i < v → fZ (L i)) → jZ (cpW m K L e v) j
  | 0, _, _ => z
  | v + 1, hv, hL => (cpW_z hj z v (by omega) (fun i hi => hL i (by omega))).w hj (by omega) (hL v (by omega)) (e v)
theorem cpM_t_S (m : Nat → Int → Int) (s n k : Int) (L : Nat → Int → Int) (e : Nat → Int) (c v : Nat) : cpM_t m s n k L e c v 19 2 = c ∧ cpM_t m s n k L e c v 19 5 = v := by
  unfold cpM_t
  rw [jU_same, ju_same, ju_ne (by decide), cpA_t_S, ju_same]
  exact ⟨rfl, rfl⟩
theorem cpM_t_b (m : Nat → Int → Int) (s n k : Int) (L : Nat → Int → Int) (e : Nat → Int) (c v : Nat) {b : Nat} (hb : b ≠ 19) : cpM_t m s n k L e c v b = cpW (jSt m 20 s n k) 6 L e c b := by
  unfold cpM_t
  rw [jU_ne hb]
  unfold cpA_t
  rw [jU_ne hb]
theorem cpM_t_A (m : Nat → Int → Int) (s n k : Int) (L : Nat → Int → Int) (e : Nat → Int) {c v : Nat} (hc : c ≤ 6) : cpM_t m s n k L e c v 20 0 = s ∧ cpM_t m s n k L e c v 20 1 = n ∧ cpM_t m s n k L e c v 20 2 = k := by
  have hne : ∀ i, i < c → 20 ≠ jwl (6 + i) ∧ 20 ≠ jwa (6 + i) := fun i hi => by
    have w := jwS (6 + i)
    exact ⟨by omega, by omega⟩
  rw [cpM_t_b m s n k L e c v (by decide), cpW_o c hne]
  unfold jSt
  rw [jU_same]
  exact ⟨rfl, rfl, rfl⟩
theorem cpM_t_w (m : Nat → Int → Int) (s n k : Int) (L : Nat → Int → Int) (e : Nat → Int) {c v i : Nat} (hc : c ≤ 6) (hi : i < c) : cpM_t m s n k L e c v (jwl (6 + i)) = L i ∧ cpM_t m s n k L e c v (jwa (6 + i)) 2 = e i := by
  have w := jwS (6 + i)
  rw [cpM_t_b m s n k L e c v (by omega), cpM_t_b m s n k L e c v (by omega)]
  exact cpW_at c (by omega) i hi
theorem cpM_t_o (m : Nat → Int → Int) (s n k : Int) (L : Nat → Int → Int) (e : Nat → Int) {c v b : Nat} (hc : c ≤ 6) (hb : b < 19 ∨ 36 < b) : cpM_t m s n k L e c v b = m b := by
  have hne : ∀ i, i < c → b ≠ jwl (6 + i) ∧ b ≠ jwa (6 + i) := fun i hi => by
    have hi6 : i < 6 := by omega
    have w : 19 ≤ jwl (6 + i) ∧ jwl (6 + i) ≤ 36 ∧ 19 ≤ jwa (6 + i) ∧ jwa (6 + i) ≤ 36 := by
      have q1 := jw_lo hi6
      have q2 := jw_hi hi6
      first | (rw [Nat.zero_add]; omega) | omega
    exact ⟨by omega, by omega⟩
  rw [cpM_t_b m s n k L e c v (by omega), cpW_o c hne]
  unfold jSt
  rw [jU_ne (by omega)]
theorem cpM_t_z (m : Nat → Int → Int) (s n k : Int) (L : Nat → Int → Int) (e : Nat → Int) {c v j : Nat} (hc : c ≤ 6) (hj : j < 13) (z : jZ m j) (hL : ∀ i, i < c → fZ (L i)) : jZ (cpM_t m s n k L e c v) j := by
  have w := jwS j
  intro p hp
  rw [cpM_t_b m s n k L e c v (by omega)]
  refine cpW_z hj ?_ c (by omega) hL p hp
  intro p hp
  unfold jSt
  rw [jU_ne (by omega)]
  exact z p hp
theorem cpH_t_H (r : Nat → Nat → Value) (t : Nat → Nat) : ∀ v i : Nat, i < v → cpH_t r t v 22 i = .ref (t i)
  | 0, i, hi => by omega
  | v + 1, i, hi => by
    show (if 22 = 22 then (fun p => if p = v then Value.ref (t v) else cpH_t r t v 22 p) else cpH_t r t v 22) i = _
    rw [if_pos rfl]
    show (if i = v then Value.ref (t v) else cpH_t r t v 22 i) = _
    by_cases c : i = v
    · rw [if_pos c, c]
    · rw [if_neg c]
      exact cpH_t_H r t v i (by omega)
theorem cpH_t_o (r : Nat → Nat → Value) (t : Nat → Nat) {a : Nat} (ha : a ≠ 22) : ∀ v : Nat, cpH_t r t v a = r a
  | 0 => rfl
  | v + 1 => by
    show (if a = 22 then (fun p => if p = v then Value.ref (t v) else cpH_t r t v 22 p) else cpH_t r t v a) = _
    rw [if_neg ha]
    exact cpH_t_o r t ha v
theorem cpM_n_S (m : Nat → Int → Int) (s n k : Int) (L : Nat → Int → Int) (e : Nat → Int) (c v : Nat) : cpM_n m s n k L e c v 1 2 = c ∧ cpM_n m s n k L e c v 1 5 = v := by
  unfold cpM_n
  rw [jU_same, ju_same, ju_ne (by decide), cpA_n_S, ju_same]
  exact ⟨rfl, rfl⟩
theorem cpM_n_b (m : Nat → Int → Int) (s n k : Int) (L : Nat → Int → Int) (e : Nat → Int) (c v : Nat) {b : Nat} (hb : b ≠ 1) : cpM_n m s n k L e c v b = cpW (jSt m 2 s n k) 0 L e c b := by
  unfold cpM_n
  rw [jU_ne hb]
  unfold cpA_n
  rw [jU_ne hb]
theorem cpM_n_A (m : Nat → Int → Int) (s n k : Int) (L : Nat → Int → Int) (e : Nat → Int) {c v : Nat} (hc : c ≤ 6) : cpM_n m s n k L e c v 2 0 = s ∧ cpM_n m s n k L e c v 2 1 = n ∧ cpM_n m s n k L e c v 2 2 = k := by
  have hne : ∀ i, i < c → 2 ≠ jwl (0 + i) ∧ 2 ≠ jwa (0 + i) := fun i hi => by
    have w := jwS (0 + i)
    exact ⟨by omega, by omega⟩
  rw [cpM_n_b m s n k L e c v (by decide), cpW_o c hne]
  unfold jSt
  rw [jU_same]
  exact ⟨rfl, rfl, rfl⟩
theorem cpM_n_w (m : Nat → Int → Int) (s n k : Int) (L : Nat → Int → Int) (e : Nat → Int) {c v i : Nat} (hc : c ≤ 6) (hi : i < c) : cpM_n m s n k L e c v (jwl (0 + i)) = L i ∧ cpM_n m s n k L e c v (jwa (0 + i)) 2 = e i := by
  have w := jwS (0 + i)
  rw [cpM_n_b m s n k L e c v (by omega), cpM_n_b m s n k L e c v (by omega)]
  exact cpW_at c (by omega) i hi
theorem cpM_n_o (m : Nat → Int → Int) (s n k : Int) (L : Nat → Int → Int) (e : Nat → Int) {c v b : Nat} (hc : c ≤ 6) (hb : b < 1 ∨ 18 < b) : cpM_n m s n k L e c v b = m b := by
  have hne : ∀ i, i < c → b ≠ jwl (0 + i) ∧ b ≠ jwa (0 + i) := fun i hi => by
    have hi6 : i < 6 := by omega
    have w : 1 ≤ jwl (0 + i) ∧ jwl (0 + i) ≤ 18 ∧ 1 ≤ jwa (0 + i) ∧ jwa (0 + i) ≤ 18 := by
      have q1 := jw_lo hi6
      have q2 := jw_hi hi6
      first | (rw [Nat.zero_add]; omega) | omega
    exact ⟨by omega, by omega⟩
  rw [cpM_n_b m s n k L e c v (by omega), cpW_o c hne]
  unfold jSt
  rw [jU_ne (by omega)]
theorem cpM_n_z (m : Nat → Int → Int) (s n k : Int) (L : Nat → Int → Int) (e : Nat → Int) {c v j : Nat} (hc : c ≤ 6) (hj : j < 13) (z : jZ m j) (hL : ∀ i, i < c → fZ (L i)) : jZ (cpM_n m s n k L e c v) j := by
  have w := jwS j
  intro p hp
  rw [cpM_n_b m s n k L e c v (by omega)]
  refine cpW_z hj ?_ c (by omega) hL p hp
  intro p hp
  unfold jSt
  rw [jU_ne (by omega)]
  exact z p hp
theorem cpH_n_H (r : Nat → Nat → Value) (t : Nat → Nat) : ∀ v i : Nat, i < v → cpH_n r t v 4 i = .ref (t i)
  | 0, i, hi => by omega
  | v + 1, i, hi => by
    show (if 4 = 4 then (fun p => if p = v then Value.ref (t v) else cpH_n r t v 4 p) else cpH_n r t v 4) i = _
    rw [if_pos rfl]
    show (if i = v then Value.ref (t v) else cpH_n r t v 4 i) = _
    by_cases c : i = v
    · rw [if_pos c, c]
    · rw [if_neg c]
      exact cpH_n_H r t v i (by omega)
theorem cpH_n_o (r : Nat → Nat → Value) (t : Nat → Nat) {a : Nat} (ha : a ≠ 4) : ∀ v : Nat, cpH_n r t v a = r a
  | 0 => rfl
  | v + 1 => by
    show (if a = 4 then (fun p => if p = v then Value.ref (t v) else cpH_n r t v 4 p) else cpH_n r t v a) = _
    rw [if_neg ha]
    exact cpH_n_o r t ha v
theorem pick {P : Nat → Nat → Prop} {c : Nat} (h : ∀ i, i < c → ∃ u, P i u) : ∃ u : Nat → Nat, ∀ i, i < c → P i (u i) := by
  classical
  refine ⟨fun i => if hi : i < c then Classical.choose (h i hi) else 0, fun i hi => ?_⟩
  simp only [dif_pos hi]
  exact Classical.choose_spec (h i hi)
def aImage (A : aT) : Int × aT := ((aC A : Int), sIm A)
def aOn (A : aT) : Int × aT := if aTk A = true then (((aI A).2.1.1 : Int), sOn A) else aRef A (-3)
theorem cl_image {A : aT} (I : iC A m r T) : jq sc 6 jm_X11_image [.ref 0] (jh m r T) (cQ (aImage A) m T) := by
  have c6 := I.c6
  have h4 := I.hc4
  have I0 := I
  obtain ⟨u, hu⟩ := pick I.he
  have gt : ∀ i, i < aHc A → r 4 i = .ref ((fun i => 62 + u i) i) ∧ (fun i => 62 + u i) i = 62 + u i ∧ T[u i]? = some ((fun i => hTag (aH A i).1) i, (fun i => [.int (jI (aH A i).2)]) i) ∧ jHt ((fun i => hTag (aH A i).1) i) = true := fun i hi => ⟨(hu i hi).1, rfl, (hu i hi).2, hTag_ok (I.ho hi).1⟩
  have ws := I.ws
  have hZ : ∀ i, i < aC A → fZ ((fun i => (aW A i).1) i) := fun i hi => (I.wo hi).2.2
  have key := sccopy_t (sc := sc) (m := m) (r := r) (T := T) (s := aS A) (n := aN A) (k := aK A) (L := fun i => (aW A i).1) (e := fun i => (aW A i).2) I.2.1.1 I.c c6 (fun i hi => by rw [Nat.zero_add]; exact I.wk hi) hZ (fun i hi => I.z (by omega)) I.hc h4 gt
  have hS := cpM_t_S m (aS A) (aN A) (aK A) (fun i => (aW A i).1) (fun i => (aW A i).2) (aC A) (aHc A)
  refine je_in jb_X11_image rfl (ls := [_]) rfl ?_
  refine je_ps jb_X11_image 1 (pc' := 1) (ls' := [_]) (st' := [_]) rfl ?_
  refine je_get jb_X11_image rfl (pc' := 4) rfl (jh_at (a := 0) rfl) (by rfl) (by rfl) ?_
  refine je_ps jb_X11_image 1 (pc' := 5) (ls' := [_]) (st' := [_, _]) rfl ?_
  refine je_get jb_X11_image rfl (pc' := 8) rfl (jh_at (a := 0) rfl) (by rfl) (by rfl) ?_
  refine je_cvP' jb_X11_image rfl (pc' := 11) rfl (jh_at (a := 19) rfl) (by rfl) (by first | decide | exact Nat.ble_eq_true_of_le (by omega)) key (st' := []) rfl ?_
  refine je_ps jb_X11_image 2 (pc' := 13) (ls' := [_]) (st' := [_, _]) rfl ?_
  refine je_putI jb_X11_image rfl (pc' := 16) rfl (j := 2) (a := 0) rfl (by rfl) (by rfl) (by rfl) (by rfl) ?_
  refine je_ps jb_X11_image 1 (pc' := 17) (ls' := [_]) (st' := [_]) rfl ?_
  refine je_get jb_X11_image rfl (pc' := 20) rfl (jh_at (a := 0) rfl) (by rfl) (by rfl) ?_
  refine je_get jb_X11_image rfl (pc' := 23) rfl (jh_at (a := 19) rfl) (by rfl) (by rfl) ?_
  rw [jU_ne (by decide), hS.1]
  refine je_ret jb_X11_image rfl (by rfl) ⟨_, _, _, rfl, rfl, ?_, ?_, tG.rfl' T⟩
  · have ho : ∀ b, b ≠ 0 → b < 19 ∨ 36 < b → jU (cpM_t m (aS A) (aN A) (aK A) (fun i => (aW A i).1) (fun i => (aW A i).2) (aC A) (aHc A)) 0 (ju (cpM_t m (aS A) (aN A) (aK A) (fun i => (aW A i).1) (fun i => (aW A i).2) (aC A) (aHc A) 0) 2 1) b = m b := fun b h0 hb => by
      rw [jU_ne h0]
      exact cpM_t_o _ _ _ _ _ _ c6 hb
    obtain ⟨i1, i2', ⟨i3, i4⟩, i5, i6, ⟨q7, i7⟩, ⟨q8, i8⟩, i9, i10⟩ := I
    refine ⟨⟨i1.1, fun _ => i1.1, i1.2.2⟩, i2'.now i1.1.2.1 (fun b h1 h2 => ho b (by omega) (by omega)) (cpH_t_o r _ (by decide) _) (tK.rfl' T), ⟨by rw [jU_same, ju_same]; rfl, fun _ => ⟨?_, ?_, fun i hi => ?_, ?_, fun i hi => ?_⟩⟩, fun j hj => ?_, ?_, ⟨q7, ?_, i7.2⟩, ⟨q8, ?_, i8.2⟩, ?_, fun j h0 h1 => ?_⟩
    · rw [jU_ne (by decide)]
      exact cpM_t_A _ _ _ _ _ _ c6
    · rw [jU_ne (by decide)]
      exact hS.1
    · have w := jw_hi (i := i) (by have hi : i < aC A := hi; omega)
      rw [jU_ne (by omega), jU_ne (by omega)]
      exact cpM_t_w _ _ _ _ _ _ c6 hi
    · rw [jU_ne (by decide)]
      exact hS.2
    · exact ⟨u i, cpH_t_H r (fun i => 62 + u i) _ i hi, (hu i hi).2⟩
    · intro p hp
      have w := jw_13 hj
      rw [jU_ne (by omega)]
      exact cpM_t_z _ _ _ _ _ _ c6 hj (i5 j hj) hZ p hp
    · unfold jQ35 at *
      rw [ho 38 (by omega) (by omega), ho 37 (by omega) (by omega)]
      exact i6
    · have := i7.1
      unfold jQ37 at *
      rw [ho 40 (by omega) (by omega), ho 39 (by omega) (by omega)]
      exact this
    · have := i8.1
      unfold jQ39 at *
      rw [ho 42 (by omega) (by omega), ho 41 (by omega) (by omega)]
      exact this
    · obtain ⟨t, u, f, W1, W2⟩ := i9
      refine ⟨t, u, f, fun l hl => ?_, W2⟩
      have := W1 l hl
      rwa [← cpH_t_o r (fun i => 62 + _) (a := 43) (by decide) (aHc A)] at this
    · rw [ho 44 (by omega) (by omega)]
      exact i10 j h0 h1
  · intro b hb
    rw [jU_ne (by omega)]
    exact cpM_t_o _ _ _ _ _ _ c6 (by omega)
theorem cl_on_n {A : aT} (I : iC A m r T) (hk : aTk A = false) : jq sc 6 jm_X11_on [.ref 0] (jh m r T) (cQ (aOn A) m T) := by
  have e : m 0 2 = 0 := by rw [I.2.2.1.1, hk]; rfl
  refine je_in jb_X11_on rfl (ls := [_]) rfl ?_
  refine je_ps jb_X11_on 1 (pc' := 1) (ls' := [_]) (st' := [_]) rfl ?_
  refine je_get jb_X11_on rfl (pc' := 4) rfl (jh_at (a := 0) rfl) (by rfl) (by rfl) ?_
  refine je_ifne jb_X11_on rfl (t := 14) rfl (pc' := 7) rfl (by first | omega | exact (hM _ _).1 | exact (hM _ _).2) (by first | omega | exact (hM _ _).1 | exact (hM _ _).2) (fun c4 => ?_) (fun c4 => ?_)
  · first | (exfalso; omega) | (cases c4; done) | (exfalso; simp_all; done)
  · refine je_ps jb_X11_on 2 (pc' := 10) (ls' := [_]) (st' := [_, _]) rfl ?_
    refine je_cvP' jb_X11_on rfl (pc' := 13) rfl (jh_at (a := 0) rfl) (by rfl) (by first | decide | exact Nat.ble_eq_true_of_le (by omega)) (c_X11_refuse (by omega)) (st' := [_]) rfl ?_
    rw [show aOn A = aRef A (-3) from by unfold aOn; rw [if_neg (by rw [hk]; decide)]]
    exact je_ret jb_X11_on rfl (by rfl) ⟨_, _, _, rfl, rfl, I.ref (by omega), kG.ref m _, tG.rfl' T⟩
theorem cl_on_p {A : aT} (I : iC A m r T) (hk : aTk A = true) : jq sc 6 jm_X11_on [.ref 0] (jh m r T) (cQ (aOn A) m T) := by
  have e : m 0 2 = 1 := by rw [I.2.2.1.1, hk]; rfl
  have I0 := I
  have B := I.2.2.1.2 hk
  have O := I.1.2.1 hk
  have c6 := O.2.1
  have h4 := O.2.2.2.1
  obtain ⟨u, hu⟩ := pick B.2.2.2.2
  have gt : ∀ i, i < (aI A).2.2.1 → r 22 i = .ref ((fun i => 62 + u i) i) ∧ (fun i => 62 + u i) i = 62 + u i ∧ T[u i]? = some ((fun i => hTag ((aI A).2.2.2 i).1) i, (fun i => [.int (jI ((aI A).2.2.2 i).2)]) i) ∧ jHt ((fun i => hTag ((aI A).2.2.2 i).1) i) = true := fun i hi => ⟨(hu i hi).1, rfl, (hu i hi).2, hTag_ok (O.2.2.2.2 i hi).1⟩
  have hZ : ∀ i, i < (aI A).2.1.1 → fZ ((fun i => ((aI A).2.1.2 i).1) i) := fun i hi => (O.2.2.1 i hi).2.2
  have js : ∀ i, i < 6 → jStr m (6 + i) (aI A).1.1 (aI A).1.2.1 (aI A).1.2.2 := fun i hi => by
    unfold jStr
    rw [show jws (6 + i) = 20 by unfold jws; rw [if_neg (by omega), if_pos (by omega)]]
    exact ⟨B.1, O.1⟩
  have key := sccopy_n (sc := sc) (m := m) (r := r) (T := T) (s := (aI A).1.1) (n := (aI A).1.2.1) (k := (aI A).1.2.2) (L := fun i => ((aI A).2.1.2 i).1) (e := fun i => ((aI A).2.1.2 i).2) B.1 B.2.1 c6 (fun i hi => ⟨js i (by omega), (B.2.2.1 i hi).1, (B.2.2.1 i hi).2, (O.2.2.1 i hi).1, (O.2.2.1 i hi).2.1⟩) hZ (fun i hi => by rw [Nat.zero_add]; exact I.z (by omega)) B.2.2.2.1 h4 gt
  have hS := cpM_n_S m (aI A).1.1 (aI A).1.2.1 (aI A).1.2.2 (fun i => ((aI A).2.1.2 i).1) (fun i => ((aI A).2.1.2 i).2) (aI A).2.1.1 (aI A).2.2.1
  have fin : iC (sOn A) (cpM_n m (aI A).1.1 (aI A).1.2.1 (aI A).1.2.2 (fun i => ((aI A).2.1.2 i).1) (fun i => ((aI A).2.1.2 i).2) (aI A).2.1.1 (aI A).2.2.1) (cpH_n r (fun i => 62 + u i) (aI A).2.2.1) T ∧ kG m (cpM_n m (aI A).1.1 (aI A).1.2.1 (aI A).1.2.2 (fun i => ((aI A).2.1.2 i).1) (fun i => ((aI A).2.1.2 i).2) (aI A).2.1.1 (aI A).2.2.1) := by
    constructor
    · have ho : ∀ b, b < 1 ∨ 18 < b → cpM_n m (aI A).1.1 (aI A).1.2.1 (aI A).1.2.2 (fun i => ((aI A).2.1.2 i).1) (fun i => ((aI A).2.1.2 i).2) (aI A).2.1.1 (aI A).2.2.1 b = m b := fun b hb => cpM_n_o _ _ _ _ _ _ c6 hb
      obtain ⟨i1, i2', ⟨i3, i4⟩, i5, i6, ⟨q7, i7⟩, ⟨q8, i8⟩, i9, i10⟩ := I
      refine ⟨⟨O, i1.2⟩, ⟨cpM_n_A _ _ _ _ _ _ c6, hS.1, fun i hi => cpM_n_w _ _ _ _ _ _ c6 hi, hS.2, fun i hi => ⟨u i, cpH_n_H r (fun i => 62 + u i) _ i hi, (hu i hi).2⟩⟩, ⟨by rw [ho 0 (by omega)]; exact i3, fun h => (i4 h).thn (i1.2.1 h).2.1 (fun b h1 h2 => ho b (by omega)) (cpH_n_o r _ (by decide) _) (tK.rfl' T)⟩, fun j hj => cpM_n_z _ _ _ _ _ _ c6 hj (i5 j hj) hZ, ?_, ⟨q7, ?_, i7.2⟩, ⟨q8, ?_, i8.2⟩, ?_, fun j h0 h1 => ?_⟩
      · unfold jQ35 at *
        rw [ho 38 (by omega), ho 37 (by omega)]
        exact i6
      · have := i7.1
        unfold jQ37 at *
        rw [ho 40 (by omega), ho 39 (by omega)]
        exact this
      · have := i8.1
        unfold jQ39 at *
        rw [ho 42 (by omega), ho 41 (by omega)]
        exact this
      · obtain ⟨t, u', f, W1, W2⟩ := i9
        refine ⟨t, u', f, fun l hl => ?_, W2⟩
        have := W1 l hl
        rwa [← cpH_n_o r (fun i => 62 + u i) (a := 43) (by decide) (aI A).2.2.1] at this
      · rw [ho 44 (by omega)]
        exact i10 j h0 h1
    · intro b hb
      exact cpM_n_o _ _ _ _ _ _ c6 (by omega)
  refine je_in jb_X11_on rfl (ls := [_]) rfl ?_
  refine je_ps jb_X11_on 1 (pc' := 1) (ls' := [_]) (st' := [_]) rfl ?_
  refine je_get jb_X11_on rfl (pc' := 4) rfl (jh_at (a := 0) rfl) (by rfl) (by rfl) ?_
  refine je_ifne jb_X11_on rfl (t := 14) rfl (pc' := 7) rfl (by first | omega | exact (hM _ _).1 | exact (hM _ _).2) (by first | omega | exact (hM _ _).1 | exact (hM _ _).2) (fun c4 => ?_) (fun c4 => ?_)
  · refine je_ps jb_X11_on 1 (pc' := 15) (ls' := [_]) (st' := [_]) rfl ?_
    refine je_get jb_X11_on rfl (pc' := 18) rfl (jh_at (a := 0) rfl) (by rfl) (by rfl) ?_
    refine je_ps jb_X11_on 1 (pc' := 19) (ls' := [_]) (st' := [_, _]) rfl ?_
    refine je_get jb_X11_on rfl (pc' := 22) rfl (jh_at (a := 0) rfl) (by rfl) (by rfl) ?_
    refine je_cvP' jb_X11_on rfl (pc' := 25) rfl (jh_at (a := 1) rfl) (by rfl) (by first | decide | exact Nat.ble_eq_true_of_le (by omega)) key (st' := []) rfl ?_
    refine je_ps jb_X11_on 1 (pc' := 26) (ls' := [_]) (st' := [_]) rfl ?_
    refine je_get jb_X11_on rfl (pc' := 29) rfl (jh_at (a := 0) rfl) (by rfl) (by rfl) ?_
    refine je_get jb_X11_on rfl (pc' := 32) rfl (jh_at (a := 1) rfl) (by rfl) (by rfl) ?_
    rw [hS.1, show aOn A = (((aI A).2.1.1 : Int), sOn A) from if_pos hk]
    exact je_ret jb_X11_on rfl (by rfl) ⟨_, _, _, rfl, rfl, fin.1, fin.2, tG.rfl' T⟩
  · first | (exfalso; omega) | (cases c4; done) | (exfalso; simp_all; done)
theorem cl_on {A : aT} (I : iC A m r T) : jq sc 6 jm_X11_on [.ref 0] (jh m r T) (cQ (aOn A) m T) := by
  cases h : aTk A with
  | true => exact cl_on_p I h
  | false => exact cl_on_n I h
end C63
