/-! THE SHELL, gathered -/
section C28
variable {sc : Nat × (Nat → Int32)} {m : Nat → Int → Int} {r : Nat → Nat → Value} {T : jx_H} {σ : jx_H}
theorem jW_self {i : Nat} (hi : i < 13) {s n k e : Int} {L : Int → Int} (g : jWk m i s n k L e) : jW m i L e = m := by
  rw [← g.2.1, ← g.2.2.1, jW_0 hi]
theorem jR39_W {i : Nat} (hi : i < 13) (m : Nat → Int → Int) (L : Int → Int) (e : Int) (q : (Int → Int) × Int) : jR39 (jW m i L e) q = jW (jR39 m q) i L e := by
  have h : ∀ i ∈ List.range 13, jwa i ≠ 41 ∧ jwa i ≠ 42 ∧ jwl i ≠ 41 ∧ jwl i ≠ 42 := by decide
  obtain ⟨h1, h2, h3, h4⟩ := h i (List.mem_range.mpr hi)
  unfold jR39 jW
  rw [jU_ne h1.symm, jU_ne h3.symm, jU_ne (b := jwa i) (a := 41) h1, jU_ne (b := jwa i) (a := 42) h2]
  rw [jU_comm (a := jwa i) (b := 42) h2, jU_comm (a := jwl i) (b := 42) h4, jU_comm (a := jwa i) (b := 41) h1, jU_comm (a := jwl i) (b := 41) h3]
theorem jQ39.w {i : Nat} (hi : i < 13) {q : (Int → Int) × Int} (g : jQ39 m q) (L : Int → Int) (e : Int) : jQ39 (jW m i L e) q := by
  have h : ∀ i ∈ List.range 13, jwa i ≠ 41 ∧ jwa i ≠ 42 ∧ jwl i ≠ 41 ∧ jwl i ≠ 42 := by decide
  obtain ⟨h1, h2, h3, h4⟩ := h i (List.mem_range.mpr hi)
  unfold jQ39 at *
  rw [jW_ne h3.symm h1.symm, jW_ne h4.symm h2.symm]
  exact g
theorem fCd_i {s n k e : Int} {L : Int → Int} (h : fS s n k) (hL : fL n k L) (he : 0 ≤ e - (if s = 0 then -5 else 0) ∧ e - (if s = 0 then -5 else 0) ≤ 10) : ∀ v : Nat, 0 ≤ fCd s n L e v ∧ fCd s n L e v + 1 ≤ 11 * 5 ^ v
  | 0 => by
    show 0 ≤ e - (if s = 0 then -5 else 0) ∧ e - (if s = 0 then -5 else 0) + 1 ≤ 11 * 5 ^ 0
    omega
  | v + 1 => by
    have q := fCd_i h hL he v
    have hk : 2 ≤ k ∧ k ≤ 5 := h.2
    have sh := fSh_i (s := s) (n := n) hL (by omega) ((if s = 0 then -5 else 0) + (v : Int))
    show 0 ≤ fCd s n L e v * 5 + fSh s n L ((if s = 0 then -5 else 0) + (v : Int)) ∧ fCd s n L e v * 5 + fSh s n L ((if s = 0 then -5 else 0) + (v : Int)) + 1 ≤ 11 * 5 ^ (v + 1)
    rw [Int.pow_succ]
    omega
theorem fTrip_far (a b g : Int) : jabs g ≤ fTrip a b g := by
  unfold fTrip
  have h1 := jabs_c a
  have h0 := jabs_c g
  split
  · have h2 := jabs_c (a - a)
    have h3 := jabs_c (g - a)
    omega
  · have h2 := jabs_c (b - a)
    have h3 := jabs_c (g - b)
    omega
theorem fCode_i {s n k e : Int} {L : Int → Int} (h : fS s n k) (hL : fL n k L) (he : fC s n e) (hl : fLen s n k L e ≤ 5) : 0 ≤ fCode s n L e ∧ fCode s n L e ≤ 600000000 := by
  have gl := fLo_c s
  have ht := fTn_i hL h.2.2
  have hb : 0 ≤ e - (if s = 0 then -5 else 0) ∧ e - (if s = 0 then -5 else 0) ≤ 10 := by
    by_cases hs : s = 0
    · rw [if_pos hs]
      unfold fLen fTour at hl
      rw [if_pos hs] at hl
      have a1 := fTrip_far (fLow s L 0 25) (fHigh s L 0 25) (e - 0)
      have a2 := fTrip_far (fHigh s L 0 25) (fLow s L 0 25) (e - 0)
      have a3 := jabs_c (e - 0)
      unfold fSt at hl
      omega
    · rw [if_neg hs]
      unfold fC at he
      unfold fS at h
      omega
  have hK : (if s = 0 then (11 : Int) else n) ≤ 11 := by
    unfold fS at h
    split <;> omega
  have q := fCd_i h hL hb (if s = 0 then (11 : Int) else n).toNat
  have p : (5 : Int) ^ (if s = 0 then (11 : Int) else n).toNat ≤ 5 ^ 11 := by
    have := Nat.pow_le_pow_right (n := 5) (by decide) (show (if s = 0 then (11 : Int) else n).toNat ≤ 11 by omega)
    exact_mod_cast this
  unfold fCode
  have p2 : (5 : Int) ^ 11 = 48828125 := by decide
  omega
def qOk (q : (Int → Int) × Int) : Prop := (0 ≤ q.2 ∧ q.2 ≤ 324) ∧ ∀ p, -2147483648 ≤ q.1 p ∧ q.1 p ≤ 2147483647
theorem fRO_ok {q : (Int → Int) × Int} {x : Int} (h : qOk q) (hx : -2147483648 ≤ x ∧ x ≤ 2147483647) : qOk (fRO q x) := by
  unfold fRO
  split
  · exact h
  · refine ⟨fRA_i (N := 324) h.1, ?_⟩
    unfold fRA
    split
    · intro p
      show -2147483648 ≤ ju q.1 q.2 x p ∧ ju q.1 q.2 x p ≤ 2147483647
      unfold ju
      split
      · exact hx
      · exact h.2 p
    · exact h.2
def fIt (F : ((Int → Int) × Int) → Nat → (Int → Int) × Int) (q : (Int → Int) × Int) : Nat → (Int → Int) × Int
  | 0 => q
  | v + 1 => F (fIt F q v) v
def fGat (s n k : Int) : Nat → Int → (Int → Int) → Int → ((Int → Int) × Int) → (Int → Int) × Int
  | 0, dep, L, e, q => if fLen s n k L e = dep then fRO q (fCode s n L e) else q
  | rem + 1, dep, L, e, q => if fLen s n k L e = dep then fIt (fun q c => if (fGo s n k L e (c : Int)).1 = true then fGat s n k rem (dep + 1) (fGo s n k L e (c : Int)).2.1 (fGo s n k L e (c : Int)).2.2 q else q) q 4 else q
theorem fIt_ok {F : ((Int → Int) × Int) → Nat → (Int → Int) × Int} {q : (Int → Int) × Int} (h : qOk q) (hF : ∀ q c, qOk q → qOk (F q c)) : ∀ v, qOk (fIt F q v)
  | 0 => h
  | v + 1 => hF _ _ (fIt_ok h hF v)
theorem fGat_ok {s n k : Int} (h : fS s n k) : ∀ (rem : Nat) (dep : Int) (L : Int → Int) (e : Int) (q : (Int → Int) × Int), fL n k L → fC s n e → dep + rem ≤ 5 → qOk q → qOk (fGat s n k rem dep L e q)
  | 0, dep, L, e, q, hL, he, hd, hq => by
    unfold fGat
    split
    · rename_i hl
      have := fCode_i h hL he (by omega)
      exact fRO_ok hq (by omega)
    · exact hq
  | rem + 1, dep, L, e, q, hL, he, hd, hq => by
    unfold fGat
    split
    · refine fIt_ok hq (fun q c hq => ?_) 4
      split
      · have g := fGo_ok (c := (c : Int)) h hL he
        exact fGat_ok h rem (dep + 1) _ _ q g.1 g.2 (by omega) hq
      · exact hq
    · exact hq
theorem k_gather {i : Nat} (hi : i < 13) {s n k kk : Int} (hk : kk ≤ 5) : ∀ (rem : Nat) (m : Nat → Int → Int) (dep : Int) (L : Int → Int) (e : Int) (q : (Int → Int) × Int), jWk m i s n k L e → jQ39 m q → qOk q → 0 ≤ dep → dep + rem = kk → jq sc (rem + 6) jm_X11_gatherShell [.ref (jwa i), .int (jI dep), .int (jI kk), .ref 41] (jh m r T) (jP none (jh (jR39 m (fGat s n k rem dep L e q)) r T)) := by
  intro rem
  induction rem with
  | zero =>
    intro m dep L e q g gq ok h0 hd
    have gn := fLen_i g.1.2 g.2.2.2.1 g.2.2.2.2
    have gc : fLen s n k L e = dep → 0 ≤ fCode s n L e ∧ fCode s n L e ≤ 600000000 := fun h => fCode_i g.1.2 g.2.2.2.1 g.2.2.2.2 (by omega)
    refine je_in jb_X11_gatherShell rfl (ls := [_, _, _, _, _]) rfl ?_
    refine je_ps jb_X11_gatherShell 2 (pc' := 2) (ls' := [_, _, _, _, _]) (st' := [_, _]) rfl ?_
    refine je_icmpgt jb_X11_gatherShell rfl (t := 13) rfl (pc' := 5) rfl (by first | omega | exact (hM _ _).1 | exact (hM _ _).2) (by first | omega | exact (hM _ _).1 | exact (hM _ _).2) (by first | omega | exact (hM _ _).1 | exact (hM _ _).2) (by first | omega | exact (hM _ _).1 | exact (hM _ _).2) (fun c2 => ?_) (fun c2 => ?_)
    · first | (exfalso; omega) | (cases c2; done) | (exfalso; simp_all; done)
    · refine je_ps jb_X11_gatherShell 1 (pc' := 6) (ls' := [_, _, _, _, _]) (st' := [_]) rfl ?_
      refine je_cvP' jb_X11_gatherShell rfl (pc' := 9) rfl (by first | exact jh_V hi g | exact jh_V hi (g0.R37 hi _) | exact jh_walk hi) (by rfl) (by first | decide | exact Nat.ble_eq_true_of_le (by omega)) (k_length hi g) (st' := [_]) rfl ?_
      refine je_ps jb_X11_gatherShell 1 (pc' := 10) (ls' := [_, _, _, _, _]) (st' := [_, _]) rfl ?_
      refine je_icmpeq jb_X11_gatherShell rfl (t := 14) rfl (pc' := 13) rfl (by first | omega | exact (hM _ _).1 | exact (hM _ _).2) (by first | omega | exact (hM _ _).1 | exact (hM _ _).2) (by first | omega | exact (hM _ _).1 | exact (hM _ _).2) (by first | omega | exact (hM _ _).1 | exact (hM _ _).2) (fun c10 => ?_) (fun c10 => ?_)
      · have gc := gc c10
        refine je_ps jb_X11_gatherShell 2 (pc' := 16) (ls' := [_, _, _, _, _]) (st' := [_, _]) rfl ?_
        refine je_icmplt jb_X11_gatherShell rfl (t := 28) rfl (pc' := 19) rfl (by first | omega | exact (hM _ _).1 | exact (hM _ _).2) (by first | omega | exact (hM _ _).1 | exact (hM _ _).2) (by first | omega | exact (hM _ _).1 | exact (hM _ _).2) (by first | omega | exact (hM _ _).1 | exact (hM _ _).2) (fun c16 => ?_) (fun c16 => ?_)
        · first | (exfalso; omega) | (cases c16; done) | (exfalso; simp_all; done)
        · refine je_ps jb_X11_gatherShell 2 (pc' := 21) (ls' := [_, _, _, _, _]) (st' := [_, _]) rfl ?_
          refine je_cvP' jb_X11_gatherShell rfl (pc' := 24) rfl (by first | exact jh_V hi g | exact jh_V hi (g0.R37 hi _) | exact jh_walk hi) (by rfl) (by first | decide | exact Nat.ble_eq_true_of_le (by omega)) (k_nearCode hi g) (st' := [_, _]) rfl ?_
          refine je_cvP' jb_X11_gatherShell rfl (pc' := 27) rfl ((jh_row39 gq).1) (by rfl) (by first | decide | exact Nat.ble_eq_true_of_le (by omega)) (k39_addOnce gq ok.2 (by omega)) (st' := []) rfl ?_
          exact je_ret jb_X11_gatherShell rfl (by rfl) ⟨rfl, jh_eq (by rw [fGat, if_pos (by omega)])⟩
      · exact je_ret jb_X11_gatherShell rfl (by rfl) ⟨rfl, jh_eq (by rw [fGat, if_neg (by omega), jR39_self gq])⟩
  | succ rem ih =>
    intro m dep L e q g gq ok h0 hd
    have gn := fLen_i g.1.2 g.2.2.2.1 g.2.2.2.2
    have g0 := g
    have gq0 := gq
    refine je_in jb_X11_gatherShell rfl (ls := [_, _, _, _, _]) rfl ?_
    refine je_ps jb_X11_gatherShell 2 (pc' := 2) (ls' := [_, _, _, _, _]) (st' := [_, _]) rfl ?_
    refine je_icmpgt jb_X11_gatherShell rfl (t := 13) rfl (pc' := 5) rfl (by first | omega | exact (hM _ _).1 | exact (hM _ _).2) (by first | omega | exact (hM _ _).1 | exact (hM _ _).2) (by first | omega | exact (hM _ _).1 | exact (hM _ _).2) (by first | omega | exact (hM _ _).1 | exact (hM _ _).2) (fun c2 => ?_) (fun c2 => ?_)
    · first | (exfalso; omega) | (cases c2; done) | (exfalso; simp_all; done)
    · refine je_ps jb_X11_gatherShell 1 (pc' := 6) (ls' := [_, _, _, _, _]) (st' := [_]) rfl ?_
      refine je_cvP' jb_X11_gatherShell rfl (pc' := 9) rfl (by first | exact jh_V hi g | exact jh_V hi (g0.R37 hi _) | exact jh_walk hi) (by rfl) (by first | decide | exact Nat.ble_eq_true_of_le (by omega)) (k_length hi g) (st' := [_]) rfl ?_
      refine je_ps jb_X11_gatherShell 1 (pc' := 10) (ls' := [_, _, _, _, _]) (st' := [_, _]) rfl ?_
      refine je_icmpeq jb_X11_gatherShell rfl (t := 14) rfl (pc' := 13) rfl (by first | omega | exact (hM _ _).1 | exact (hM _ _).2) (by first | omega | exact (hM _ _).1 | exact (hM _ _).2) (by first | omega | exact (hM _ _).1 | exact (hM _ _).2) (by first | omega | exact (hM _ _).1 | exact (hM _ _).2) (fun c10 => ?_) (fun c10 => ?_)
      · refine je_ps jb_X11_gatherShell 2 (pc' := 16) (ls' := [_, _, _, _, _]) (st' := [_, _]) rfl ?_
        refine je_icmplt jb_X11_gatherShell rfl (t := 28) rfl (pc' := 19) rfl (by first | omega | exact (hM _ _).1 | exact (hM _ _).2) (by first | omega | exact (hM _ _).1 | exact (hM _ _).2) (by first | omega | exact (hM _ _).1 | exact (hM _ _).2) (by first | omega | exact (hM _ _).1 | exact (hM _ _).2) (fun c16 => ?_) (fun c16 => ?_)
        · refine je_ps jb_X11_gatherShell 2 (pc' := 31) (ls' := [_, _, _, _, _]) (st' := []) rfl ?_
          refine je_loop (fun (v : Nat) ls σ' => ls = [.ref (jwa i), .int (jI dep), .int (jI kk), .ref 41, .int (jI v)] ∧ σ' = jh (jR39 m (fIt (fun q c => if (fGo s n k L e (c : Int)).1 = true then fGat s n k rem (dep + 1) (fGo s n k L e (c : Int)).2.1 (fGo s n k L e (c : Int)).2.2 q else q) q v)) r T) (4) ⟨rfl, jh_eq (jR39_self gq).symm⟩ (fun v hv ls σ' gv kv => ?_) (fun ls σ' gv => ?_)
          · obtain ⟨rfl, rfl⟩ := gv
            have gok : qOk (fIt (fun q c => if (fGo s n k L e (c : Int)).1 = true then fGat s n k rem (dep + 1) (fGo s n k L e (c : Int)).2.1 (fGo s n k L e (c : Int)).2.2 q else q) q v) := fIt_ok ok (fun q c hq => by split; (have g := fGo_ok (c := (c : Int)) g0.1.2 g0.2.2.2.1 g0.2.2.2.2; exact fGat_ok g0.1.2 rem (dep + 1) _ _ q g.1 g.2 (by omega) hq); exact hq) v
            have gs : fIt (fun q c => if (fGo s n k L e (c : Int)).1 = true then fGat s n k rem (dep + 1) (fGo s n k L e (c : Int)).2.1 (fGo s n k L e (c : Int)).2.2 q else q) q (v + 1) = (if (fGo s n k L e (v : Int)).1 = true then fGat s n k rem (dep + 1) (fGo s n k L e (v : Int)).2.1 (fGo s n k L e (v : Int)).2.2 (fIt (fun q c => if (fGo s n k L e (c : Int)).1 = true then fGat s n k rem (dep + 1) (fGo s n k L e (c : Int)).2.1 (fGo s n k L e (c : Int)).2.2 q else q) q v) else (fIt (fun q c => if (fGo s n k L e (c : Int)).1 = true then fGat s n k rem (dep + 1) (fGo s n k L e (c : Int)).2.1 (fGo s n k L e (c : Int)).2.2 q else q) q v)) := rfl
            rw [gs] at kv
            generalize (fIt (fun q c => if (fGo s n k L e (c : Int)).1 = true then fGat s n k rem (dep + 1) (fGo s n k L e (c : Int)).2.1 (fGo s n k L e (c : Int)).2.2 q else q) q v) = qv at *
            have g := g0.R39 hi qv
            have gq := jQ39_R m gok.1.1 gok.1.2
            have gg := fGo_ok (c := (v : Int)) g0.1.2 g0.2.2.2.1 g0.2.2.2.2
            have gx := fX_i (v : Int)
            refine je_ps jb_X11_gatherShell 2 (pc' := 34) (ls' := [_, _, _, _, _]) (st' := [_, _]) rfl ?_
            refine je_icmpge jb_X11_gatherShell rfl (t := 70) rfl (pc' := 37) rfl (by first | omega | exact (hM _ _).1 | exact (hM _ _).2) (by first | omega | exact (hM _ _).1 | exact (hM _ _).2) (by first | omega | exact (hM _ _).1 | exact (hM _ _).2) (by first | omega | exact (hM _ _).1 | exact (hM _ _).2) (fun c34 => ?_) (fun c34 => ?_)
            · first | (exfalso; omega) | (cases c34; done) | (exfalso; simp_all; done)
            · refine je_ps jb_X11_gatherShell 2 (pc' := 40) (ls' := [_, _, _, _, _]) (st' := [_, _]) rfl ?_
              refine je_cvP' jb_X11_gatherShell rfl (pc' := 43) rfl (by first | exact jh_V hi g | exact jh_V hi (g0.R37 hi _) | exact jh_walk hi) (by rfl) (by first | decide | exact Nat.ble_eq_true_of_le (by omega)) (k_goOn hi g (by omega)) (st' := [_]) rfl ?_
              refine je_ifeqb jb_X11_gatherShell rfl (t := 64) rfl (pc' := 46) rfl (fun c43 => ?_) (fun c43 => ?_)
              · refine je_iinc jb_X11_gatherShell rfl (pc' := 67) rfl rfl (ls' := [_, _, _, _, _]) rfl ?_
                refine je_ps jb_X11_gatherShell 1 (pc' := 31) (ls' := [_, _, _, _, _]) (st' := []) rfl ?_
                first | (rw [if_pos c43] at kv; refine kv _ _ ⟨rfl, jh_eq ?_⟩; rw [fGo_back g0.1.2 g0.2.2.2.1 g0.2.2.2.2 c43, jR39_W hi, jR39_R, jW_W hi, jW_self hi (g0.R39 hi _)]) | (rw [if_neg (by rw [c43]; decide)] at kv; refine kv _ _ ⟨rfl, jh_eq ?_⟩; rw [fGo_no c43, jW_self hi (g0.R39 hi _)])
              · have gq := gq.w hi (fGo s n k L e (v : Int)).2.1 (fGo s n k L e (v : Int)).2.2
                have g := jWk.w (m := jR39 m qv) g.1 hi gg.1 gg.2
                refine je_ps jb_X11_gatherShell 3 (pc' := 49) (ls' := [_, _, _, _, _]) (st' := [_, _, _]) rfl ?_
                refine je_iadd jb_X11_gatherShell rfl (pc' := 50) rfl ?_
                refine je_ps jb_X11_gatherShell 2 (pc' := 52) (ls' := [_, _, _, _, _]) (st' := [_, _, _, _]) rfl ?_
                refine je_csP' jb_X11_gatherShell rfl (pc' := 55) rfl (by rfl) (by first | decide | exact Nat.ble_eq_true_of_le (by omega)) (ih _ _ _ _ _ g gq gok (by omega) (by omega)) (st' := []) rfl ?_
                have g := g.R39 hi (fGat s n k rem (dep + 1) (fGo s n k L e (v : Int)).2.1 (fGo s n k L e (v : Int)).2.2 qv)
                refine je_ps jb_X11_gatherShell 3 (pc' := 59) (ls' := [_, _, _, _, _]) (st' := [_, _, _]) rfl ?_
                refine je_ixor1 jb_X11_gatherShell rfl (pc' := 60) rfl (by omega) (by omega) ?_
                refine je_cvP' jb_X11_gatherShell rfl (pc' := 63) rfl (by first | exact jh_V hi g | exact jh_V hi (g0.R37 hi _) | exact jh_walk hi) (by rfl) (by first | decide | exact Nat.ble_eq_true_of_le (by omega)) (k_goOn hi g (by omega)) (st' := [_]) rfl ?_
                refine je_ps jb_X11_gatherShell 1 (pc' := 64) (ls' := [_, _, _, _, _]) (st' := []) rfl ?_
                refine je_iinc jb_X11_gatherShell rfl (pc' := 67) rfl rfl (ls' := [_, _, _, _, _]) rfl ?_
                refine je_ps jb_X11_gatherShell 1 (pc' := 31) (ls' := [_, _, _, _, _]) (st' := []) rfl ?_
                first | (rw [if_pos c43] at kv; refine kv _ _ ⟨rfl, jh_eq ?_⟩; rw [fGo_back g0.1.2 g0.2.2.2.1 g0.2.2.2.2 c43, jR39_W hi, jR39_R, jW_W hi, jW_self hi (g0.R39 hi _)]) | (rw [if_neg (by rw [c43]; decide)] at kv; refine kv _ _ ⟨rfl, jh_eq ?_⟩; rw [fGo_no c43, jW_self hi (g0.R39 hi _)])
          · obtain ⟨rfl, rfl⟩ := gv
            refine je_ps jb_X11_gatherShell 2 (pc' := 34) (ls' := [_, _, _, _, _]) (st' := [_, _]) rfl ?_
            refine je_icmpge jb_X11_gatherShell rfl (t := 70) rfl (pc' := 37) rfl (by first | omega | exact (hM _ _).1 | exact (hM _ _).2) (by first | omega | exact (hM _ _).1 | exact (hM _ _).2) (by first | omega | exact (hM _ _).1 | exact (hM _ _).2) (by first | omega | exact (hM _ _).1 | exact (hM _ _).2) (fun c34 => ?_) (fun c34 => ?_)
            · exact je_ret jb_X11_gatherShell rfl (by rfl) ⟨rfl, jh_eq (by rw [fGat, if_pos (by omega)])⟩
            · first | (exfalso; omega) | (cases c34; done) | (exfalso; simp_all; done)
        · first | (exfalso; omega) | (cases c16; done) | (exfalso; simp_all; done)
      · exact je_ret jb_X11_gatherShell rfl (by rfl) ⟨rfl, jh_eq (by rw [fGat, if_neg (by omega), jR39_self gq])⟩
end C28
