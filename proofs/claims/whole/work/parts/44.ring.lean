/-! THE OTHER SIDE: the tour round a ring -/
section C44
variable {sc : Nat × (Nat → Int32)} {m : Nat → Int → Int} {r : Nat → Nat → Value} {T : jx_H} {σ : jx_H}
def gBm (m : Nat → Int → Int) (f q : Int → Int) : Nat → Int → Int := jU (jU m 52 f) 53 q
theorem gBm_50 (m : Nat → Int → Int) (f q : Int → Int) : gBm m f q 52 = f := by
  unfold gBm
  rw [jU_ne (by decide), jU_same]
theorem gBm_51 (m : Nat → Int → Int) (f q : Int → Int) : gBm m f q 53 = q := by
  unfold gBm
  rw [jU_same]
theorem gBm_ne (m : Nat → Int → Int) (f q : Int → Int) {b : Nat} (h1 : b ≠ 52) (h2 : b ≠ 53) : gBm m f q b = m b := by
  unfold gBm
  rw [jU_ne h2, jU_ne h1]
theorem gBm_f (m : Nat → Int → Int) (f q f' : Int → Int) : jU (gBm m f q) 52 f' = gBm m f' q := by
  unfold gBm
  rw [jU_comm (a := 53) (b := 52) (by decide), jU_jU]
theorem gBm_q (m : Nat → Int → Int) (f q q' : Int → Int) : jU (gBm m f q) 53 q' = gBm m f q' := by
  unfold gBm
  rw [jU_jU]
theorem gBm_0 (m : Nat → Int → Int) (f q : Int → Int) : jU (jU m 52 f) 53 q = gBm m f q := rfl
/-- another memory of the other side: only what a tour needs is otherwise -/
def gD (m m' : Nat → Int → Int) : Prop := ∀ b : Nat, b ≠ 51 → b ≠ 52 → b ≠ 53 → m' b = m b
theorem gD.rfl' (m : Nat → Int → Int) : gD m m := fun _ _ _ _ => rfl
theorem gD.tr {m m1 m2 : Nat → Int → Int} (h : gD m m1) (h2 : gD m1 m2) : gD m m2 := fun b q1 q2 q3 => (h2 b q1 q2 q3).trans (h b q1 q2 q3)
theorem gD.b {m m1 : Nat → Int → Int} (h : gD m m1) (f q : Int → Int) : gD m (gBm m1 f q) := h.tr fun b _ q2 q3 => gBm_ne m1 f q q2 q3
theorem gD.d {m m1 : Nat → Int → Int} (h : gD m m1) (f : Int → Int) : gD m (jU m1 51 f) := h.tr fun b q1 _ _ => jU_ne q1
theorem gD.st {m m1 : Nat → Int → Int} (h : gD m m1) {s n k : Int} (g : gSt m s n k) : gSt m1 s n k := by
  unfold gSt at *
  rwa [h 45 (by decide) (by decide) (by decide)]
theorem gD.k {m m1 : Nat → Int → Int} (h : gD m m1) {w s n k e : Int} {L : Int → Int} (g : gWk m w s n k L e) : gWk m1 w s n k L e := by
  unfold gWk at *
  rw [h 47 (by decide) (by decide) (by decide), h 48 (by decide) (by decide) (by decide)]
  exact ⟨h.st g.1, g.2⟩
theorem gD.w {m m1 : Nat → Int → Int} (h : gD m m1) (w : Int) (L : Int → Int) (e : Int) : gD (gW m w L e) (gW m1 w L e) := by
  intro b q1 q2 q3
  have h45 := h 47 (by decide) (by decide) (by decide)
  have h46 := h 48 (by decide) (by decide) (by decide)
  by_cases e1 : b = 47
  · subst e1
    rw [gW_45, gW_45, h45]
  · by_cases e2 : b = 48
    · subst e2
      rw [gW_46, gW_46, h46]
    · rw [gW_43 _ _ _ _ e1 e2, gW_43 _ _ _ _ e1 e2, h b q1 q2 q3]
theorem BI_rng {n A s0 : Int} {w : Nat} {s : (Int → Int) × (Int → Int) × Nat} (I : BI n A s0 w s) : s.2.2 ≤ 2048 ∧ (∀ x : Int, 0 ≤ x → x < 2048 → -1 ≤ s.1 x ∧ s.1 x ≤ 2048) ∧ ∀ x : Int, 0 ≤ x → x < 2048 → s.1 x < 0 → s.2.2 < 2048 := by
  have a1 := I.1.2.2
  have a2 := cN_le s.1 2048
  refine ⟨by omega, fun x h0 h1 => ?_, fun x h0 h1 h2 => ?_⟩
  · have b1 := I.2.2.2.2.2.2.2.2.1 x
    refine ⟨by omega, ?_⟩
    by_cases c : 0 ≤ s.1 x
    · obtain ⟨j, j1, j2⟩ := I.2.2.1 x h0 h1 c
      have b2 := I.2.2.2.2.2.2.2.2.2 j j1
      rw [j2] at b2
      omega
    · omega
  · have := cN_lt h2 h0 2048 h1
    omega
def bV (n A : Int) (w : Nat) (s : (Int → Int) × (Int → Int) × Nat) : Nat → (Int → Int) × (Int → Int) × Nat
  | 0 => s
  | v + 1 => bIn n A w (2 * (v : Int) - 1) (bV n A w s v)
theorem bV_ok {n A s0 : Int} {w : Nat} {s : (Int → Int) × (Int → Int) × Nat} (hn : 3 ≤ n ∧ n ≤ 8) (hA : 0 ≤ A ∧ A < 256) (hs : vX n s0) (I : BI n A s0 w s) (hw : w < s.2.2) : ∀ v : Nat, v ≤ 2 → BI n A s0 w (bV n A w s v) ∧ w < (bV n A w s v).2.2 ∧ (bV n A w s v).2.1 (w : Int) = s.2.1 (w : Int)
  | 0, _ => ⟨I, hw, rfl⟩
  | v + 1, hv => by
    obtain ⟨i1, i2, i3⟩ := bV_ok hn hA hs I hw v (by omega)
    obtain ⟨j1, -, j3, j4, -, -⟩ := bIn_ok hn hA hs (b := 2 * (v : Int) - 1) (by omega) i1 i2
    exact ⟨j1, Nat.lt_of_lt_of_le i2 j4, (j3 w i2).trans i3⟩
theorem k_gringTour {n k f t : Int} {L : Int → Int} (g : gSt m 1 n k) (hd : gDu m n L) (hL : fL n k L) (hf : fC 1 n f) (ht : fC 1 n t) : jq sc 1 jm_X12_ringTour [.ref 45, .int (jI f), .int (jI t)] (jh m r T) (fun v σ => ∃ m', v = some (.int (jI (fTour 1 n L t f))) ∧ σ = jh m' r T ∧ gD m m') := by
  have gs := g.2
  unfold fS at gs
  have hn : 3 ≤ n ∧ n ≤ 8 := by omega
  have hf' := hf
  have ht' := ht
  unfold fC at hf' ht'
  rw [show fLo 1 = 0 from rfl] at hf' ht'
  obtain ⟨q1, q2, q3, q4⟩ := g.1
  have hA := aM_i (L := L) n.toNat (by omega)
  have hF : ∀ x : Int, 0 ≤ x → x < 2048 → jF (m 52) (fun _ => -1) 2048 x = -1 := fun x h0 h1 => by unfold jF; rw [if_pos ⟨h0, h1⟩]
  obtain ⟨N, hW, hne, hq, hD⟩ := waves (Q := m 53) g.2 hL ht hf hF
  have hs0 : 0 ≤ rS n (aM L n.toNat) f ∧ rS n (aM L n.toNat) f < 256 * n := by
    have h1 := iAnd_i (b := i2 f) hA.1
    unfold rS
    omega
  have hand := iAnd_i (b := i2 f) hA.1
  have hi2 := i2_i (b := f) (by omega) (by omega)
  have m43 : ∀ F Q : Int → Int, gBm m F Q 45 = m 45 := fun F Q => gBm_ne m F Q (by decide) (by decide)
  refine je_in jb_X12_ringTour rfl (ls := [_, _, _, _, _, _, _, _, _, _, _]) rfl ?_
  refine je_ps jb_X12_ringTour 4 (pc' := 5) (ls' := [_, _, _, _, _, _, _, _, _, _, _]) (st' := []) rfl ?_
  refine je_loop (fun (v : Nat) ls σ' => ∃ x5 x6 x7 x8 x9 xa, ls = [.ref 45, .int (jI f), .int (jI t), .int (jI (aM L v)), .int (jI v), x5, x6, x7, x8, x9, xa] ∧ σ' = jh m r T) (n.toNat) ⟨_, _, _, _, _, _, rfl, rfl⟩ (fun v hv ls σ' gv kv => ?_) (fun ls σ' gv => ?_)
  · obtain ⟨x5, x6, x7, x8, x9, xa, rfl, rfl⟩ := gv
    have gq := hL.1 (v : Int)
    have gk2 : 2 ≤ k ∧ k ≤ 5 := g.2.2
    have gv := hd (v : Int) (by omega) (by omega)
    have ga := aM_i (L := L) v (by omega)
    have gi := i2_i (b := (v : Int)) (by omega) (by omega)
    have gz : aM L (v + 1) = iOr (aM L v) (if 0 < L (v : Int) then i2 (v : Int) else 0) := rfl
    refine je_ps jb_X12_ringTour 2 (pc' := 8) (ls' := [_, _, _, _, _, _, _, _, _, _, _]) (st' := [_, _]) rfl ?_
    refine je_get jb_X12_ringTour rfl (pc' := 11) rfl (jh_at (a := 45) rfl) (by rfl) (by rfl) ?_
    refine je_icmpge jb_X12_ringTour rfl (t := 41) rfl (pc' := 14) rfl (by first | omega | exact (hM _ _).1 | exact (hM _ _).2) (by first | omega | exact (hM _ _).1 | exact (hM _ _).2) (by first | omega | exact (hM _ _).1 | exact (hM _ _).2) (by first | omega | exact (hM _ _).1 | exact (hM _ _).2) (fun c11 => ?_) (fun c11 => ?_)
    · first | (exfalso; omega) | (cases c11; done) | (exfalso; simp_all; done)
    · refine je_ps jb_X12_ringTour 2 (pc' := 16) (ls' := [_, _, _, _, _, _, _, _, _, _, _]) (st' := [_, _]) rfl ?_
      refine je_get jb_X12_ringTour rfl (pc' := 19) rfl (jh_at (a := 45) rfl) (by rfl) (by rfl) ?_
      refine je_ps jb_X12_ringTour 1 (pc' := 21) (ls' := [_, _, _, _, _, _, _, _, _, _, _]) (st' := [_, _, _]) rfl ?_
      refine je_iald jb_X12_ringTour rfl (pc' := 22) rfl (n := 25) (f := _) (jh_at (a := 51) rfl) (by first | omega | exact (hM _ _).1 | exact (hM _ _).2) (by first | omega | exact (hM _ _).1 | exact (hM _ _).2) (by first | omega | exact (hM _ _).1 | exact (hM _ _).2) ?_
      refine je_ifle jb_X12_ringTour rfl (t := 32) rfl (pc' := 25) rfl (by first | omega | exact (hM _ _).1 | exact (hM _ _).2) (by first | omega | exact (hM _ _).1 | exact (hM _ _).2) (fun c22 => ?_) (fun c22 => ?_)
      · refine je_ps jb_X12_ringTour 1 (pc' := 33) (ls' := [_, _, _, _, _, _, _, _, _, _, _]) (st' := [_, _]) rfl ?_
        refine je_ior jb_X12_ringTour rfl (pc' := 34) rfl (by first | omega | exact (hM _ _).1 | exact (hM _ _).2) (by first | omega | exact (hM _ _).1 | exact (hM _ _).2) (by first | omega | exact (hM _ _).1 | exact (hM _ _).2) (by first | omega | exact (hM _ _).1 | exact (hM _ _).2) ?_
        refine je_ps jb_X12_ringTour 1 (pc' := 35) (ls' := [_, _, _, _, _, _, _, _, _, _, _]) (st' := []) rfl ?_
        refine je_iinc jb_X12_ringTour rfl (pc' := 38) rfl rfl (ls' := [_, _, _, _, _, _, _, _, _, _, _]) rfl ?_
        refine je_ps jb_X12_ringTour 1 (pc' := 5) (ls' := [_, _, _, _, _, _, _, _, _, _, _]) (st' := []) rfl ?_
        refine kv _ _ ⟨x5, x6, x7, x8, x9, xa, ?_, rfl⟩
        rw [gz]
        first | (rw [if_pos (by omega)]; rfl) | (rw [if_neg (by omega)]; rfl)
      · refine je_ps jb_X12_ringTour 2 (pc' := 28) (ls' := [_, _, _, _, _, _, _, _, _, _, _]) (st' := [_, _, _]) rfl ?_
        refine je_ishl1 jb_X12_ringTour rfl (pc' := 29) rfl (by first | omega | exact (hM _ _).1 | exact (hM _ _).2) (by first | omega | exact (hM _ _).1 | exact (hM _ _).2) ?_
        refine je_ps jb_X12_ringTour 1 (pc' := 33) (ls' := [_, _, _, _, _, _, _, _, _, _, _]) (st' := [_, _]) rfl ?_
        refine je_ior jb_X12_ringTour rfl (pc' := 34) rfl (by first | omega | exact (hM _ _).1 | exact (hM _ _).2) (by first | omega | exact (hM _ _).1 | exact (hM _ _).2) (by first | omega | exact (hM _ _).1 | exact (hM _ _).2) (by first | omega | exact (hM _ _).1 | exact (hM _ _).2) ?_
        refine je_ps jb_X12_ringTour 1 (pc' := 35) (ls' := [_, _, _, _, _, _, _, _, _, _, _]) (st' := []) rfl ?_
        refine je_iinc jb_X12_ringTour rfl (pc' := 38) rfl rfl (ls' := [_, _, _, _, _, _, _, _, _, _, _]) rfl ?_
        refine je_ps jb_X12_ringTour 1 (pc' := 5) (ls' := [_, _, _, _, _, _, _, _, _, _, _]) (st' := []) rfl ?_
        refine kv _ _ ⟨x5, x6, x7, x8, x9, xa, ?_, rfl⟩
        rw [gz]
        first | (rw [if_pos (by omega)]; rfl) | (rw [if_neg (by omega)]; rfl)
  · obtain ⟨x5, x6, x7, x8, x9, xa, rfl, rfl⟩ := gv
    refine je_ps jb_X12_ringTour 2 (pc' := 8) (ls' := [_, _, _, _, _, _, _, _, _, _, _]) (st' := [_, _]) rfl ?_
    refine je_get jb_X12_ringTour rfl (pc' := 11) rfl (jh_at (a := 45) rfl) (by rfl) (by rfl) ?_
    refine je_icmpge jb_X12_ringTour rfl (t := 41) rfl (pc' := 14) rfl (by first | omega | exact (hM _ _).1 | exact (hM _ _).2) (by first | omega | exact (hM _ _).1 | exact (hM _ _).2) (by first | omega | exact (hM _ _).1 | exact (hM _ _).2) (by first | omega | exact (hM _ _).1 | exact (hM _ _).2) (fun c11 => ?_) (fun c11 => ?_)
    · refine je_ps jb_X12_ringTour 2 (pc' := 44) (ls' := [_, _, _, _, _, _, _, _, _, _, _]) (st' := []) rfl ?_
      refine je_loop (fun (u : Nat) ls σ' => ∃ x5 x6 x7 x8 x9 xa, ls = [.ref 45, .int (jI f), .int (jI t), .int (jI (aM L n.toNat)), .int (jI u), x5, x6, x7, x8, x9, xa] ∧ σ' = jh (jU m 52 (jF (m 52) (fun _ => -1) u)) r T) (2048) ⟨_, _, _, _, _, _, rfl, jh_eq (by rw [show ((0 : Nat) : Int) = 0 from rfl, jF_0, jU_self])⟩ (fun u hu ls σ' gu ku => ?_) (fun ls σ' gu => ?_)
      · obtain ⟨x5, x6, x7, x8, x9, xa, rfl, rfl⟩ := gu
        refine je_ps jb_X12_ringTour 2 (pc' := 47) (ls' := [_, _, _, _, _, _, _, _, _, _, _]) (st' := [_, _]) rfl ?_
        refine je_get jb_X12_ringTour rfl (pc' := 50) rfl (jh_at (a := 45) rfl) (by rfl) (by rfl) ?_
        refine je_alen jb_X12_ringTour rfl (pc' := 51) rfl (n := 2048) (f := _) (jh_at (a := 52) rfl) ?_
        refine je_icmpge jb_X12_ringTour rfl (t := 68) rfl (pc' := 54) rfl (by first | omega | exact (hM _ _).1 | exact (hM _ _).2) (by first | omega | exact (hM _ _).1 | exact (hM _ _).2) (by first | omega | exact (hM _ _).1 | exact (hM _ _).2) (by first | omega | exact (hM _ _).1 | exact (hM _ _).2) (fun c51 => ?_) (fun c51 => ?_)
        · first | (exfalso; omega) | (cases c51; done) | (exfalso; simp_all; done)
        · refine je_ps jb_X12_ringTour 1 (pc' := 55) (ls' := [_, _, _, _, _, _, _, _, _, _, _]) (st' := [_]) rfl ?_
          refine je_get jb_X12_ringTour rfl (pc' := 58) rfl (jh_at (a := 45) rfl) (by rfl) (by rfl) ?_
          refine je_ps jb_X12_ringTour 2 (pc' := 61) (ls' := [_, _, _, _, _, _, _, _, _, _, _]) (st' := [_, _, _]) rfl ?_
          refine je_iastI jb_X12_ringTour rfl (pc' := 62) rfl (n := 2048) (a := 52) rfl (fun _ => rfl) (by first | omega | exact (hM _ _).1 | exact (hM _ _).2) (by first | omega | exact (hM _ _).1 | exact (hM _ _).2) (by first | omega | exact (hM _ _).1 | exact (hM _ _).2) ?_
          refine je_iinc jb_X12_ringTour rfl (pc' := 65) rfl rfl (ls' := [_, _, _, _, _, _, _, _, _, _, _]) rfl ?_
          refine je_ps jb_X12_ringTour 1 (pc' := 44) (ls' := [_, _, _, _, _, _, _, _, _, _, _]) (st' := []) rfl ?_
          refine ku _ _ ⟨x5, x6, x7, x8, x9, xa, rfl, jh_eq ?_⟩
          rw [jU_same, jU_jU, jF_s _ (fun _ => -1) _ (by omega)]
          rfl
      · obtain ⟨x5, x6, x7, x8, x9, xa, rfl, rfl⟩ := gu
        refine je_ps jb_X12_ringTour 2 (pc' := 47) (ls' := [_, _, _, _, _, _, _, _, _, _, _]) (st' := [_, _]) rfl ?_
        refine je_get jb_X12_ringTour rfl (pc' := 50) rfl (jh_at (a := 45) rfl) (by rfl) (by rfl) ?_
        refine je_alen jb_X12_ringTour rfl (pc' := 51) rfl (n := 2048) (f := _) (jh_at (a := 52) rfl) ?_
        refine je_icmpge jb_X12_ringTour rfl (t := 68) rfl (pc' := 54) rfl (by first | omega | exact (hM _ _).1 | exact (hM _ _).2) (by first | omega | exact (hM _ _).1 | exact (hM _ _).2) (by first | omega | exact (hM _ _).1 | exact (hM _ _).2) (by first | omega | exact (hM _ _).1 | exact (hM _ _).2) (fun c51 => ?_) (fun c51 => ?_)
        · refine je_ps jb_X12_ringTour 3 (pc' := 72) (ls' := [_, _, _, _, _, _, _, _, _, _, _]) (st' := [_]) rfl ?_
          refine je_get jb_X12_ringTour rfl (pc' := 75) rfl (jh_at (a := 45) rfl) (by rfl) (by rfl) ?_
          refine je_ps jb_X12_ringTour 3 (pc' := 80) (ls' := [_, _, _, _, _, _, _, _, _, _, _]) (st' := [_, _, _, _]) rfl ?_
          refine je_imul jb_X12_ringTour rfl (pc' := 81) rfl ?_
          refine je_ps jb_X12_ringTour 3 (pc' := 84) (ls' := [_, _, _, _, _, _, _, _, _, _, _]) (st' := [_, _, _, _, _, _]) rfl ?_
          refine je_ishl1 jb_X12_ringTour rfl (pc' := 85) rfl (by first | omega | exact (hM _ _).1 | exact (hM _ _).2) (by first | omega | exact (hM _ _).1 | exact (hM _ _).2) ?_
          refine je_iand2 jb_X12_ringTour rfl (pc' := 86) rfl (by first | omega | exact (hM _ _).1 | exact (hM _ _).2) (by first | omega | exact (hM _ _).1 | exact (hM _ _).2) (by first | omega | exact (hM _ _).1 | exact (hM _ _).2) (by first | omega | exact (hM _ _).1 | exact (hM _ _).2) ?_
          refine je_iadd jb_X12_ringTour rfl (pc' := 87) rfl ?_
          refine je_iastI jb_X12_ringTour rfl (pc' := 88) rfl (n := 2048) (a := 53) rfl (fun _ => rfl) (by first | omega | exact (hM _ _).1 | exact (hM _ _).2) (by first | omega | exact (hM _ _).1 | exact (hM _ _).2) (by first | omega | exact (hM _ _).1 | exact (hM _ _).2) ?_
          show je _ _ _ _ _ _ (jh (jU (jU m 52 (jF (m 52) (fun _ => -1) 2048)) 53 (ju (m 53) 0 (rS n (aM L n.toNat) f))) r T) _
          rw [gBm_0]
          refine je_ps jb_X12_ringTour 1 (pc' := 89) (ls' := [_, _, _, _, _, _, _, _, _, _, _]) (st' := [_]) rfl ?_
          refine je_get jb_X12_ringTour rfl (pc' := 92) rfl (jh_at (a := 45) rfl) (by rfl) (by rfl) ?_
          refine je_ps jb_X12_ringTour 1 (pc' := 93) (ls' := [_, _, _, _, _, _, _, _, _, _, _]) (st' := [_, _]) rfl ?_
          refine je_get jb_X12_ringTour rfl (pc' := 96) rfl (jh_at (a := 45) rfl) (by rfl) (by rfl) ?_
          refine je_ps jb_X12_ringTour 1 (pc' := 97) (ls' := [_, _, _, _, _, _, _, _, _, _, _]) (st' := [_, _, _]) rfl ?_
          refine je_iald jb_X12_ringTour rfl (pc' := 98) rfl (n := 2048) (f := _) (jh_at (a := 53) rfl) (by first | omega | exact (hM _ _).1 | exact (hM _ _).2) (by first | omega | exact (hM _ _).1 | exact (hM _ _).2) (by first | omega | exact (hM _ _).1 | exact (hM _ _).2) ?_
          rw [gBm_51, ju_same]
          refine je_ps jb_X12_ringTour 1 (pc' := 99) (ls' := [_, _, _, _, _, _, _, _, _, _, _]) (st' := [_, _, _]) rfl ?_
          refine je_iastI jb_X12_ringTour rfl (pc' := 100) rfl (n := 2048) (a := 52) rfl (fun _ => rfl) (by first | omega | exact (hM _ _).1 | exact (hM _ _).2) (by first | omega | exact (hM _ _).1 | exact (hM _ _).2) (by first | omega | exact (hM _ _).1 | exact (hM _ _).2) ?_
          rw [gBm_50, gBm_f]
          refine je_ps jb_X12_ringTour 2 (pc' := 103) (ls' := [_, _, _, _, _, _, _, _, _, _, _]) (st' := []) rfl ?_
          refine je_loop (fun (v : Nat) ls σ' => ∃ x6 x7 x8 x9 xa, ls = [.ref 45, .int (jI f), .int (jI t), .int (jI (aM L n.toNat)), .int (jI ((bS n (aM L n.toNat) (rS n (aM L n.toNat) f) (jF (m 52) (fun _ => -1) 2048) (m 53) v).2.2 : Int)), .int (jI v), x6, x7, x8, x9, xa] ∧ σ' = jh (gBm m (bS n (aM L n.toNat) (rS n (aM L n.toNat) f) (jF (m 52) (fun _ => -1) 2048) (m 53) v).1 (bS n (aM L n.toNat) (rS n (aM L n.toNat) f) (jF (m 52) (fun _ => -1) 2048) (m 53) v).2.1) r T) (N) ⟨_, _, _, _, _, rfl, rfl⟩ (fun v hv ls σ' gv kv => ?_) (fun ls σ' gv => ?_)
          · obtain ⟨x6, x7, x8, x9, xa, rfl, rfl⟩ := gv
            have hWv := hW v (by omega)
            have hnv := hne v hv
            have ebs : bS n (aM L n.toNat) (rS n (aM L n.toNat) f) (jF (m 52) (fun _ => -1) 2048) (m 53) (v + 1) = bSt n (aM L n.toNat) v (bS n (aM L n.toNat) (rS n (aM L n.toNat) f) (jF (m 52) (fun _ => -1) 2048) (m 53) v) := rfl
            rw [ebs] at kv
            clear ebs
            generalize bS n (aM L n.toNat) (rS n (aM L n.toNat) f) (jF (m 52) (fun _ => -1) 2048) (m 53) v = sv at *
            obtain ⟨hI, hwm⟩ := hWv
            have hr := BI_rng hI
            have hx := (hI.2.1 v hwm).1
            unfold vX at hx
            have ok := bV_ok hn hA hs0 hI hwm
            refine je_ps jb_X12_ringTour 2 (pc' := 107) (ls' := [_, _, _, _, _, _, _, _, _, _, _]) (st' := [_, _]) rfl ?_
            refine je_icmpge jb_X12_ringTour rfl (t := 257) rfl (pc' := 110) rfl (by first | omega | exact (hM _ _).1 | exact (hM _ _).2) (by first | omega | exact (hM _ _).1 | exact (hM _ _).2) (by first | omega | exact (hM _ _).1 | exact (hM _ _).2) (by first | omega | exact (hM _ _).1 | exact (hM _ _).2) (fun c107 => ?_) (fun c107 => ?_)
            · first | (exfalso; omega) | (cases c107; done) | (exfalso; simp_all; done)
            · refine je_ps jb_X12_ringTour 1 (pc' := 111) (ls' := [_, _, _, _, _, _, _, _, _, _, _]) (st' := [_]) rfl ?_
              refine je_get jb_X12_ringTour rfl (pc' := 114) rfl (jh_at (a := 45) rfl) (by rfl) (by rfl) ?_
              refine je_ps jb_X12_ringTour 1 (pc' := 116) (ls' := [_, _, _, _, _, _, _, _, _, _, _]) (st' := [_, _]) rfl ?_
              refine je_iald jb_X12_ringTour rfl (pc' := 117) rfl (n := 2048) (f := _) (jh_at (a := 53) rfl) (by first | omega | exact (hM _ _).1 | exact (hM _ _).2) (by first | omega | exact (hM _ _).1 | exact (hM _ _).2) (by first | omega | exact (hM _ _).1 | exact (hM _ _).2) ?_
              rw [gBm_51]
              refine je_ps jb_X12_ringTour 1 (pc' := 120) (ls' := [_, _, _, _, _, _, _, _, _, _, _]) (st' := [_, _]) rfl ?_
              refine je_idiv jb_X12_ringTour rfl (pc' := 121) rfl (by first | omega | exact (hM _ _).1 | exact (hM _ _).2) (by first | omega | exact (hM _ _).1 | exact (hM _ _).2) (by first | omega | exact (hM _ _).1 | exact (hM _ _).2) (by first | omega | exact (hM _ _).1 | exact (hM _ _).2) ?_
              refine je_ps jb_X12_ringTour 2 (pc' := 124) (ls' := [_, _, _, _, _, _, _, _, _, _, _]) (st' := [_]) rfl ?_
              refine je_get jb_X12_ringTour rfl (pc' := 127) rfl (jh_at (a := 45) rfl) (by rfl) (by rfl) ?_
              refine je_ps jb_X12_ringTour 1 (pc' := 129) (ls' := [_, _, _, _, _, _, _, _, _, _, _]) (st' := [_, _]) rfl ?_
              refine je_iald jb_X12_ringTour rfl (pc' := 130) rfl (n := 2048) (f := _) (jh_at (a := 53) rfl) (by first | omega | exact (hM _ _).1 | exact (hM _ _).2) (by first | omega | exact (hM _ _).1 | exact (hM _ _).2) (by first | omega | exact (hM _ _).1 | exact (hM _ _).2) ?_
              rw [gBm_51]
              refine je_ps jb_X12_ringTour 1 (pc' := 133) (ls' := [_, _, _, _, _, _, _, _, _, _, _]) (st' := [_, _]) rfl ?_
              refine je_irem jb_X12_ringTour rfl (pc' := 134) rfl (by first | omega | exact (hM _ _).1 | exact (hM _ _).2) (by first | omega | exact (hM _ _).1 | exact (hM _ _).2) (by first | omega | exact (hM _ _).1 | exact (hM _ _).2) (by first | omega | exact (hM _ _).1 | exact (hM _ _).2) ?_
              refine je_ps jb_X12_ringTour 3 (pc' := 139) (ls' := [_, _, _, _, _, _, _, _, _, _, _]) (st' := [_, _]) rfl ?_
              refine je_icmpne jb_X12_ringTour rfl (t := 161) rfl (pc' := 142) rfl (by first | omega | exact (hM _ _).1 | exact (hM _ _).2) (by first | omega | exact (hM _ _).1 | exact (hM _ _).2) (by first | omega | exact (hM _ _).1 | exact (hM _ _).2) (by first | omega | exact (hM _ _).1 | exact (hM _ _).2) (fun c139 => ?_) (fun c139 => ?_)
              · refine je_ps jb_X12_ringTour 2 (pc' := 164) (ls' := [_, _, _, _, _, _, _, _, _, _, _]) (st' := []) rfl ?_
                refine je_loop (fun (u : Nat) ls σ' => ∃ x9 xa, ls = [.ref 45, .int (jI f), .int (jI t), .int (jI (aM L n.toNat)), .int (jI ((bV n (aM L n.toNat) v sv u).2.2 : Int)), .int (jI v), .int (jI (sv.2.1 (v : Int) / 256)), .int (jI (sv.2.1 (v : Int) % 256)), .int (jI (2 * (u : Int) - 1)), x9, xa] ∧ σ' = jh (gBm m (bV n (aM L n.toNat) v sv u).1 (bV n (aM L n.toNat) v sv u).2.1) r T) (2) ⟨_, _, rfl, rfl⟩ (fun u hu ls σ' gu ku => ?_) (fun ls σ' gu => ?_)
                · obtain ⟨x9, xa, rfl, rfl⟩ := gu
                  obtain ⟨o1, o2, o3⟩ := ok u (by omega)
                  have hr2 := BI_rng o1
                  have hy := vX_b (x := sv.2.1 (v : Int)) (b := 2 * (u : Int) - 1) hn hA
                  have r0 := Int.emod_nonneg (sv.2.1 (v : Int) / 256 + (2 * (u : Int) - 1)) (show n ≠ 0 by omega)
                  have r1 := Int.emod_lt_of_pos (sv.2.1 (v : Int) / 256 + (2 * (u : Int) - 1)) (show 0 < n by omega)
                  have r2 := i2_i (b := (sv.2.1 (v : Int) / 256 + (2 * (u : Int) - 1)) % n) (by omega) (by omega)
                  have r3 := iAnd_i (b := i2 ((sv.2.1 (v : Int) / 256 + (2 * (u : Int) - 1)) % n)) hA.1
                  have ebv : bV n (aM L n.toNat) v sv (u + 1) = bIn n (aM L n.toNat) v (2 * (u : Int) - 1) (bV n (aM L n.toNat) v sv u) := rfl
                  rw [ebv] at ku
                  clear ebv
                  unfold bIn at ku
                  rw [o3] at ku
                  unfold vX at hy
                  have hfy := hr2.2.1 _ hy.1 (by omega)
                  have hfz := hr2.2.2 _ hy.1 (by omega)
                  unfold bI at hy hfy hfz ku
                  have e43 := congrFun (m43 (bV n (aM L n.toNat) v sv u).1 (bV n (aM L n.toNat) v sv u).2.1) 2
                  rw [q2] at e43
                  refine je_ps jb_X12_ringTour 2 (pc' := 167) (ls' := [_, _, _, _, _, _, _, _, _, _, _]) (st' := [_, _]) rfl ?_
                  refine je_icmpge jb_X12_ringTour rfl (t := 251) rfl (pc' := 170) rfl (by first | omega | exact (hM _ _).1 | exact (hM _ _).2) (by first | omega | exact (hM _ _).1 | exact (hM _ _).2) (by first | omega | exact (hM _ _).1 | exact (hM _ _).2) (by first | omega | exact (hM _ _).1 | exact (hM _ _).2) (fun c167 => ?_) (fun c167 => ?_)
                  · first | (exfalso; omega) | (cases c167; done) | (exfalso; simp_all; done)
                  · refine je_ps jb_X12_ringTour 2 (pc' := 174) (ls' := [_, _, _, _, _, _, _, _, _, _, _]) (st' := [_, _]) rfl ?_
                    refine je_iadd jb_X12_ringTour rfl (pc' := 175) rfl ?_
                    refine je_ps jb_X12_ringTour 1 (pc' := 176) (ls' := [_, _, _, _, _, _, _, _, _, _, _]) (st' := [_, _]) rfl ?_
                    refine je_get jb_X12_ringTour rfl (pc' := 179) rfl (jh_at (a := 45) rfl) (by rfl) (by rfl) ?_
                    rw [e43]
                    refine je_fm jb_X12_ringTour rfl (pc' := 182) rfl rfl rfl (by first | omega | exact (hM _ _).1 | exact (hM _ _).2) (by first | omega | exact (hM _ _).1 | exact (hM _ _).2) (by first | omega | exact (hM _ _).1 | exact (hM _ _).2) (by first | omega | exact (hM _ _).1 | exact (hM _ _).2) ?_
                    refine je_ps jb_X12_ringTour 3 (pc' := 189) (ls' := [_, _, _, _, _, _, _, _, _, _, _]) (st' := [_, _]) rfl ?_
                    refine je_imul jb_X12_ringTour rfl (pc' := 190) rfl ?_
                    refine je_ps jb_X12_ringTour 4 (pc' := 196) (ls' := [_, _, _, _, _, _, _, _, _, _, _]) (st' := [_, _, _, _, _]) rfl ?_
                    refine je_ishl1 jb_X12_ringTour rfl (pc' := 197) rfl (by first | omega | exact (hM _ _).1 | exact (hM _ _).2) (by first | omega | exact (hM _ _).1 | exact (hM _ _).2) ?_
                    refine je_iand2 jb_X12_ringTour rfl (pc' := 198) rfl (by first | omega | exact (hM _ _).1 | exact (hM _ _).2) (by first | omega | exact (hM _ _).1 | exact (hM _ _).2) (by first | omega | exact (hM _ _).1 | exact (hM _ _).2) (by first | omega | exact (hM _ _).1 | exact (hM _ _).2) ?_
                    refine je_ior jb_X12_ringTour rfl (pc' := 199) rfl (by first | omega | exact (hM _ _).1 | exact (hM _ _).2) (by first | omega | exact (hM _ _).1 | exact (hM _ _).2) (by first | omega | exact (hM _ _).1 | exact (hM _ _).2) (by first | omega | exact (hM _ _).1 | exact (hM _ _).2) ?_
                    refine je_iadd jb_X12_ringTour rfl (pc' := 200) rfl ?_
                    refine je_ps jb_X12_ringTour 2 (pc' := 203) (ls' := [_, _, _, _, _, _, _, _, _, _, _]) (st' := [_]) rfl ?_
                    refine je_get jb_X12_ringTour rfl (pc' := 206) rfl (jh_at (a := 45) rfl) (by rfl) (by rfl) ?_
                    refine je_ps jb_X12_ringTour 1 (pc' := 208) (ls' := [_, _, _, _, _, _, _, _, _, _, _]) (st' := [_, _]) rfl ?_
                    refine je_iald jb_X12_ringTour rfl (pc' := 209) rfl (n := 2048) (f := _) (jh_at (a := 52) rfl) (by first | omega | exact (hM _ _).1 | exact (hM _ _).2) (by first | omega | exact (hM _ _).1 | exact (hM _ _).2) (by first | omega | exact (hM _ _).1 | exact (hM _ _).2) ?_
                    rw [gBm_50]
                    refine je_ifge jb_X12_ringTour rfl (t := 245) rfl (pc' := 212) rfl (by first | omega | exact (hM _ _).1 | exact (hM _ _).2) (by first | omega | exact (hM _ _).1 | exact (hM _ _).2) (fun c209 => ?_) (fun c209 => ?_)
                    · refine je_iinc jb_X12_ringTour rfl (pc' := 248) rfl rfl (ls' := [_, _, _, _, _, _, _, _, _, _, _]) rfl ?_
                      refine je_ps jb_X12_ringTour 1 (pc' := 164) (ls' := [_, _, _, _, _, _, _, _, _, _, _]) (st' := []) rfl ?_
                      first | (rw [if_neg (by omega)] at ku; exact ku _ _ ⟨_, _, by rw [show 2 * ((u + 1 : Nat) : Int) - 1 = 2 * (u : Int) - 1 + 2 by omega], rfl⟩) | (rw [if_pos (by omega)] at ku; exact ku _ _ ⟨_, _, by rw [show 2 * ((u + 1 : Nat) : Int) - 1 = 2 * (u : Int) - 1 + 2 by omega]; rfl, rfl⟩)
                    · refine je_ps jb_X12_ringTour 1 (pc' := 213) (ls' := [_, _, _, _, _, _, _, _, _, _, _]) (st' := [_]) rfl ?_
                      refine je_get jb_X12_ringTour rfl (pc' := 216) rfl (jh_at (a := 45) rfl) (by rfl) (by rfl) ?_
                      refine je_ps jb_X12_ringTour 2 (pc' := 219) (ls' := [_, _, _, _, _, _, _, _, _, _, _]) (st' := [_, _, _]) rfl ?_
                      refine je_get jb_X12_ringTour rfl (pc' := 222) rfl (jh_at (a := 45) rfl) (by rfl) (by rfl) ?_
                      refine je_ps jb_X12_ringTour 1 (pc' := 223) (ls' := [_, _, _, _, _, _, _, _, _, _, _]) (st' := [_, _, _, _]) rfl ?_
                      refine je_get jb_X12_ringTour rfl (pc' := 226) rfl (jh_at (a := 45) rfl) (by rfl) (by rfl) ?_
                      refine je_ps jb_X12_ringTour 1 (pc' := 228) (ls' := [_, _, _, _, _, _, _, _, _, _, _]) (st' := [_, _, _, _, _]) rfl ?_
                      refine je_iald jb_X12_ringTour rfl (pc' := 229) rfl (n := 2048) (f := _) (jh_at (a := 53) rfl) (by first | omega | exact (hM _ _).1 | exact (hM _ _).2) (by first | omega | exact (hM _ _).1 | exact (hM _ _).2) (by first | omega | exact (hM _ _).1 | exact (hM _ _).2) ?_
                      rw [gBm_51, o3]
                      refine je_iald jb_X12_ringTour rfl (pc' := 230) rfl (n := 2048) (f := _) (jh_at (a := 52) rfl) (by first | omega | exact (hM _ _).1 | exact (hM _ _).2) (by first | omega | exact (hM _ _).1 | exact (hM _ _).2) (by first | omega | exact (hM _ _).1 | exact (hM _ _).2) ?_
                      rw [gBm_50]
                      refine je_ps jb_X12_ringTour 1 (pc' := 231) (ls' := [_, _, _, _, _, _, _, _, _, _, _]) (st' := [_, _, _, _]) rfl ?_
                      refine je_iadd jb_X12_ringTour rfl (pc' := 232) rfl ?_
                      refine je_iastI jb_X12_ringTour rfl (pc' := 233) rfl (n := 2048) (a := 52) rfl (fun _ => rfl) (by first | omega | exact (hM _ _).1 | exact (hM _ _).2) (by first | omega | exact (hM _ _).1 | exact (hM _ _).2) (by first | omega | exact (hM _ _).1 | exact (hM _ _).2) ?_
                      rw [gBm_50, gBm_f]
                      refine je_ps jb_X12_ringTour 1 (pc' := 234) (ls' := [_, _, _, _, _, _, _, _, _, _, _]) (st' := [_]) rfl ?_
                      refine je_get jb_X12_ringTour rfl (pc' := 237) rfl (jh_at (a := 45) rfl) (by rfl) (by rfl) ?_
                      refine je_ps jb_X12_ringTour 2 (pc' := 241) (ls' := [_, _, _, _, _, _, _, _, _, _, _]) (st' := [_, _, _]) rfl ?_
                      refine je_iastI jb_X12_ringTour rfl (pc' := 242) rfl (n := 2048) (a := 53) rfl (fun _ => rfl) (by first | omega | exact (hM _ _).1 | exact (hM _ _).2) (by first | omega | exact (hM _ _).1 | exact (hM _ _).2) (by first | omega | exact (hM _ _).1 | exact (hM _ _).2) ?_
                      rw [gBm_51, gBm_q]
                      refine je_iinc jb_X12_ringTour rfl (pc' := 245) rfl rfl (ls' := [_, _, _, _, _, _, _, _, _, _, _]) rfl ?_
                      refine je_iinc jb_X12_ringTour rfl (pc' := 248) rfl rfl (ls' := [_, _, _, _, _, _, _, _, _, _, _]) rfl ?_
                      refine je_ps jb_X12_ringTour 1 (pc' := 164) (ls' := [_, _, _, _, _, _, _, _, _, _, _]) (st' := []) rfl ?_
                      first | (rw [if_neg (by omega)] at ku; exact ku _ _ ⟨_, _, by rw [show 2 * ((u + 1 : Nat) : Int) - 1 = 2 * (u : Int) - 1 + 2 by omega], rfl⟩) | (rw [if_pos (by omega)] at ku; exact ku _ _ ⟨_, _, by rw [show 2 * ((u + 1 : Nat) : Int) - 1 = 2 * (u : Int) - 1 + 2 by omega]; rfl, rfl⟩)
                · obtain ⟨x9, xa, rfl, rfl⟩ := gu
                  refine je_ps jb_X12_ringTour 2 (pc' := 167) (ls' := [_, _, _, _, _, _, _, _, _, _, _]) (st' := [_, _]) rfl ?_
                  refine je_icmpge jb_X12_ringTour rfl (t := 251) rfl (pc' := 170) rfl (by first | omega | exact (hM _ _).1 | exact (hM _ _).2) (by first | omega | exact (hM _ _).1 | exact (hM _ _).2) (by first | omega | exact (hM _ _).1 | exact (hM _ _).2) (by first | omega | exact (hM _ _).1 | exact (hM _ _).2) (fun c167 => ?_) (fun c167 => ?_)
                  · refine je_iinc jb_X12_ringTour rfl (pc' := 254) rfl rfl (ls' := [_, _, _, _, _, _, _, _, _, _, _]) rfl ?_
                    refine je_ps jb_X12_ringTour 1 (pc' := 103) (ls' := [_, _, _, _, _, _, _, _, _, _, _]) (st' := []) rfl ?_
                    exact kv _ _ ⟨_, _, _, _, _, rfl, rfl⟩
                  · first | (exfalso; omega) | (cases c167; done) | (exfalso; simp_all; done)
              · refine je_ps jb_X12_ringTour 2 (pc' := 145) (ls' := [_, _, _, _, _, _, _, _, _, _, _]) (st' := [_, _]) rfl ?_
                refine je_icmpne jb_X12_ringTour rfl (t := 161) rfl (pc' := 148) rfl (by first | omega | exact (hM _ _).1 | exact (hM _ _).2) (by first | omega | exact (hM _ _).1 | exact (hM _ _).2) (by first | omega | exact (hM _ _).1 | exact (hM _ _).2) (by first | omega | exact (hM _ _).1 | exact (hM _ _).2) (fun c145 => ?_) (fun c145 => ?_)
                · refine je_ps jb_X12_ringTour 2 (pc' := 164) (ls' := [_, _, _, _, _, _, _, _, _, _, _]) (st' := []) rfl ?_
                  refine je_loop (fun (u : Nat) ls σ' => ∃ x9 xa, ls = [.ref 45, .int (jI f), .int (jI t), .int (jI (aM L n.toNat)), .int (jI ((bV n (aM L n.toNat) v sv u).2.2 : Int)), .int (jI v), .int (jI (sv.2.1 (v : Int) / 256)), .int (jI (sv.2.1 (v : Int) % 256)), .int (jI (2 * (u : Int) - 1)), x9, xa] ∧ σ' = jh (gBm m (bV n (aM L n.toNat) v sv u).1 (bV n (aM L n.toNat) v sv u).2.1) r T) (2) ⟨_, _, rfl, rfl⟩ (fun u hu ls σ' gu ku => ?_) (fun ls σ' gu => ?_)
                  · obtain ⟨x9, xa, rfl, rfl⟩ := gu
                    obtain ⟨o1, o2, o3⟩ := ok u (by omega)
                    have hr2 := BI_rng o1
                    have hy := vX_b (x := sv.2.1 (v : Int)) (b := 2 * (u : Int) - 1) hn hA
                    have r0 := Int.emod_nonneg (sv.2.1 (v : Int) / 256 + (2 * (u : Int) - 1)) (show n ≠ 0 by omega)
                    have r1 := Int.emod_lt_of_pos (sv.2.1 (v : Int) / 256 + (2 * (u : Int) - 1)) (show 0 < n by omega)
                    have r2 := i2_i (b := (sv.2.1 (v : Int) / 256 + (2 * (u : Int) - 1)) % n) (by omega) (by omega)
                    have r3 := iAnd_i (b := i2 ((sv.2.1 (v : Int) / 256 + (2 * (u : Int) - 1)) % n)) hA.1
                    have ebv : bV n (aM L n.toNat) v sv (u + 1) = bIn n (aM L n.toNat) v (2 * (u : Int) - 1) (bV n (aM L n.toNat) v sv u) := rfl
                    rw [ebv] at ku
                    clear ebv
                    unfold bIn at ku
                    rw [o3] at ku
                    unfold vX at hy
                    have hfy := hr2.2.1 _ hy.1 (by omega)
                    have hfz := hr2.2.2 _ hy.1 (by omega)
                    unfold bI at hy hfy hfz ku
                    have e43 := congrFun (m43 (bV n (aM L n.toNat) v sv u).1 (bV n (aM L n.toNat) v sv u).2.1) 2
                    rw [q2] at e43
                    refine je_ps jb_X12_ringTour 2 (pc' := 167) (ls' := [_, _, _, _, _, _, _, _, _, _, _]) (st' := [_, _]) rfl ?_
                    refine je_icmpge jb_X12_ringTour rfl (t := 251) rfl (pc' := 170) rfl (by first | omega | exact (hM _ _).1 | exact (hM _ _).2) (by first | omega | exact (hM _ _).1 | exact (hM _ _).2) (by first | omega | exact (hM _ _).1 | exact (hM _ _).2) (by first | omega | exact (hM _ _).1 | exact (hM _ _).2) (fun c167 => ?_) (fun c167 => ?_)
                    · first | (exfalso; omega) | (cases c167; done) | (exfalso; simp_all; done)
                    · refine je_ps jb_X12_ringTour 2 (pc' := 174) (ls' := [_, _, _, _, _, _, _, _, _, _, _]) (st' := [_, _]) rfl ?_
                      refine je_iadd jb_X12_ringTour rfl (pc' := 175) rfl ?_
                      refine je_ps jb_X12_ringTour 1 (pc' := 176) (ls' := [_, _, _, _, _, _, _, _, _, _, _]) (st' := [_, _]) rfl ?_
                      refine je_get jb_X12_ringTour rfl (pc' := 179) rfl (jh_at (a := 45) rfl) (by rfl) (by rfl) ?_
                      rw [e43]
                      refine je_fm jb_X12_ringTour rfl (pc' := 182) rfl rfl rfl (by first | omega | exact (hM _ _).1 | exact (hM _ _).2) (by first | omega | exact (hM _ _).1 | exact (hM _ _).2) (by first | omega | exact (hM _ _).1 | exact (hM _ _).2) (by first | omega | exact (hM _ _).1 | exact (hM _ _).2) ?_
                      refine je_ps jb_X12_ringTour 3 (pc' := 189) (ls' := [_, _, _, _, _, _, _, _, _, _, _]) (st' := [_, _]) rfl ?_
                      refine je_imul jb_X12_ringTour rfl (pc' := 190) rfl ?_
                      refine je_ps jb_X12_ringTour 4 (pc' := 196) (ls' := [_, _, _, _, _, _, _, _, _, _, _]) (st' := [_, _, _, _, _]) rfl ?_
                      refine je_ishl1 jb_X12_ringTour rfl (pc' := 197) rfl (by first | omega | exact (hM _ _).1 | exact (hM _ _).2) (by first | omega | exact (hM _ _).1 | exact (hM _ _).2) ?_
                      refine je_iand2 jb_X12_ringTour rfl (pc' := 198) rfl (by first | omega | exact (hM _ _).1 | exact (hM _ _).2) (by first | omega | exact (hM _ _).1 | exact (hM _ _).2) (by first | omega | exact (hM _ _).1 | exact (hM _ _).2) (by first | omega | exact (hM _ _).1 | exact (hM _ _).2) ?_
                      refine je_ior jb_X12_ringTour rfl (pc' := 199) rfl (by first | omega | exact (hM _ _).1 | exact (hM _ _).2) (by first | omega | exact (hM _ _).1 | exact (hM _ _).2) (by first | omega | exact (hM _ _).1 | exact (hM _ _).2) (by first | omega | exact (hM _ _).1 | exact (hM _ _).2) ?_
                      refine je_iadd jb_X12_ringTour rfl (pc' := 200) rfl ?_
                      refine je_ps jb_X12_ringTour 2 (pc' := 203) (ls' := [_, _, _, _, _, _, _, _, _, _, _]) (st' := [_]) rfl ?_
                      refine je_get jb_X12_ringTour rfl (pc' := 206) rfl (jh_at (a := 45) rfl) (by rfl) (by rfl) ?_
                      refine je_ps jb_X12_ringTour 1 (pc' := 208) (ls' := [_, _, _, _, _, _, _, _, _, _, _]) (st' := [_, _]) rfl ?_
                      refine je_iald jb_X12_ringTour rfl (pc' := 209) rfl (n := 2048) (f := _) (jh_at (a := 52) rfl) (by first | omega | exact (hM _ _).1 | exact (hM _ _).2) (by first | omega | exact (hM _ _).1 | exact (hM _ _).2) (by first | omega | exact (hM _ _).1 | exact (hM _ _).2) ?_
                      rw [gBm_50]
                      refine je_ifge jb_X12_ringTour rfl (t := 245) rfl (pc' := 212) rfl (by first | omega | exact (hM _ _).1 | exact (hM _ _).2) (by first | omega | exact (hM _ _).1 | exact (hM _ _).2) (fun c209 => ?_) (fun c209 => ?_)
                      · refine je_iinc jb_X12_ringTour rfl (pc' := 248) rfl rfl (ls' := [_, _, _, _, _, _, _, _, _, _, _]) rfl ?_
                        refine je_ps jb_X12_ringTour 1 (pc' := 164) (ls' := [_, _, _, _, _, _, _, _, _, _, _]) (st' := []) rfl ?_
                        first | (rw [if_neg (by omega)] at ku; exact ku _ _ ⟨_, _, by rw [show 2 * ((u + 1 : Nat) : Int) - 1 = 2 * (u : Int) - 1 + 2 by omega], rfl⟩) | (rw [if_pos (by omega)] at ku; exact ku _ _ ⟨_, _, by rw [show 2 * ((u + 1 : Nat) : Int) - 1 = 2 * (u : Int) - 1 + 2 by omega]; rfl, rfl⟩)
                      · refine je_ps jb_X12_ringTour 1 (pc' := 213) (ls' := [_, _, _, _, _, _, _, _, _, _, _]) (st' := [_]) rfl ?_
                        refine je_get jb_X12_ringTour rfl (pc' := 216) rfl (jh_at (a := 45) rfl) (by rfl) (by rfl) ?_
                        refine je_ps jb_X12_ringTour 2 (pc' := 219) (ls' := [_, _, _, _, _, _, _, _, _, _, _]) (st' := [_, _, _]) rfl ?_
                        refine je_get jb_X12_ringTour rfl (pc' := 222) rfl (jh_at (a := 45) rfl) (by rfl) (by rfl) ?_
                        refine je_ps jb_X12_ringTour 1 (pc' := 223) (ls' := [_, _, _, _, _, _, _, _, _, _, _]) (st' := [_, _, _, _]) rfl ?_
                        refine je_get jb_X12_ringTour rfl (pc' := 226) rfl (jh_at (a := 45) rfl) (by rfl) (by rfl) ?_
                        refine je_ps jb_X12_ringTour 1 (pc' := 228) (ls' := [_, _, _, _, _, _, _, _, _, _, _]) (st' := [_, _, _, _, _]) rfl ?_
                        refine je_iald jb_X12_ringTour rfl (pc' := 229) rfl (n := 2048) (f := _) (jh_at (a := 53) rfl) (by first | omega | exact (hM _ _).1 | exact (hM _ _).2) (by first | omega | exact (hM _ _).1 | exact (hM _ _).2) (by first | omega | exact (hM _ _).1 | exact (hM _ _).2) ?_
                        rw [gBm_51, o3]
                        refine je_iald jb_X12_ringTour rfl (pc' := 230) rfl (n := 2048) (f := _) (jh_at (a := 52) rfl) (by first | omega | exact (hM _ _).1 | exact (hM _ _).2) (by first | omega | exact (hM _ _).1 | exact (hM _ _).2) (by first | omega | exact (hM _ _).1 | exact (hM _ _).2) ?_
                        rw [gBm_50]
                        refine je_ps jb_X12_ringTour 1 (pc' := 231) (ls' := [_, _, _, _, _, _, _, _, _, _, _]) (st' := [_, _, _, _]) rfl ?_
                        refine je_iadd jb_X12_ringTour rfl (pc' := 232) rfl ?_
                        refine je_iastI jb_X12_ringTour rfl (pc' := 233) rfl (n := 2048) (a := 52) rfl (fun _ => rfl) (by first | omega | exact (hM _ _).1 | exact (hM _ _).2) (by first | omega | exact (hM _ _).1 | exact (hM _ _).2) (by first | omega | exact (hM _ _).1 | exact (hM _ _).2) ?_
                        rw [gBm_50, gBm_f]
                        refine je_ps jb_X12_ringTour 1 (pc' := 234) (ls' := [_, _, _, _, _, _, _, _, _, _, _]) (st' := [_]) rfl ?_
                        refine je_get jb_X12_ringTour rfl (pc' := 237) rfl (jh_at (a := 45) rfl) (by rfl) (by rfl) ?_
                        refine je_ps jb_X12_ringTour 2 (pc' := 241) (ls' := [_, _, _, _, _, _, _, _, _, _, _]) (st' := [_, _, _]) rfl ?_
                        refine je_iastI jb_X12_ringTour rfl (pc' := 242) rfl (n := 2048) (a := 53) rfl (fun _ => rfl) (by first | omega | exact (hM _ _).1 | exact (hM _ _).2) (by first | omega | exact (hM _ _).1 | exact (hM _ _).2) (by first | omega | exact (hM _ _).1 | exact (hM _ _).2) ?_
                        rw [gBm_51, gBm_q]
                        refine je_iinc jb_X12_ringTour rfl (pc' := 245) rfl rfl (ls' := [_, _, _, _, _, _, _, _, _, _, _]) rfl ?_
                        refine je_iinc jb_X12_ringTour rfl (pc' := 248) rfl rfl (ls' := [_, _, _, _, _, _, _, _, _, _, _]) rfl ?_
                        refine je_ps jb_X12_ringTour 1 (pc' := 164) (ls' := [_, _, _, _, _, _, _, _, _, _, _]) (st' := []) rfl ?_
                        first | (rw [if_neg (by omega)] at ku; exact ku _ _ ⟨_, _, by rw [show 2 * ((u + 1 : Nat) : Int) - 1 = 2 * (u : Int) - 1 + 2 by omega], rfl⟩) | (rw [if_pos (by omega)] at ku; exact ku _ _ ⟨_, _, by rw [show 2 * ((u + 1 : Nat) : Int) - 1 = 2 * (u : Int) - 1 + 2 by omega]; rfl, rfl⟩)
                  · obtain ⟨x9, xa, rfl, rfl⟩ := gu
                    refine je_ps jb_X12_ringTour 2 (pc' := 167) (ls' := [_, _, _, _, _, _, _, _, _, _, _]) (st' := [_, _]) rfl ?_
                    refine je_icmpge jb_X12_ringTour rfl (t := 251) rfl (pc' := 170) rfl (by first | omega | exact (hM _ _).1 | exact (hM _ _).2) (by first | omega | exact (hM _ _).1 | exact (hM _ _).2) (by first | omega | exact (hM _ _).1 | exact (hM _ _).2) (by first | omega | exact (hM _ _).1 | exact (hM _ _).2) (fun c167 => ?_) (fun c167 => ?_)
                    · refine je_iinc jb_X12_ringTour rfl (pc' := 254) rfl rfl (ls' := [_, _, _, _, _, _, _, _, _, _, _]) rfl ?_
                      refine je_ps jb_X12_ringTour 1 (pc' := 103) (ls' := [_, _, _, _, _, _, _, _, _, _, _]) (st' := []) rfl ?_
                      exact kv _ _ ⟨_, _, _, _, _, rfl, rfl⟩
                    · first | (exfalso; omega) | (cases c167; done) | (exfalso; simp_all; done)
                · first | (exfalso; omega) | (cases c145; done) | (exfalso; simp_all; done)
          · obtain ⟨x6, x7, x8, x9, xa, rfl, rfl⟩ := gv
            have hWv := hW N (Nat.le_refl N)
            generalize bS n (aM L n.toNat) (rS n (aM L n.toNat) f) (jF (m 52) (fun _ => -1) 2048) (m 53) N = sv at *
            obtain ⟨hI, hwm⟩ := hWv
            have hr := BI_rng hI
            have hx := (hI.2.1 N hwm).1
            unfold vX at hx
            refine je_ps jb_X12_ringTour 2 (pc' := 107) (ls' := [_, _, _, _, _, _, _, _, _, _, _]) (st' := [_, _]) rfl ?_
            refine je_icmpge jb_X12_ringTour rfl (t := 257) rfl (pc' := 110) rfl (by first | omega | exact (hM _ _).1 | exact (hM _ _).2) (by first | omega | exact (hM _ _).1 | exact (hM _ _).2) (by first | omega | exact (hM _ _).1 | exact (hM _ _).2) (by first | omega | exact (hM _ _).1 | exact (hM _ _).2) (fun c107 => ?_) (fun c107 => ?_)
            · first | (exfalso; omega) | (cases c107; done) | (exfalso; simp_all; done)
            · refine je_ps jb_X12_ringTour 1 (pc' := 111) (ls' := [_, _, _, _, _, _, _, _, _, _, _]) (st' := [_]) rfl ?_
              refine je_get jb_X12_ringTour rfl (pc' := 114) rfl (jh_at (a := 45) rfl) (by rfl) (by rfl) ?_
              refine je_ps jb_X12_ringTour 1 (pc' := 116) (ls' := [_, _, _, _, _, _, _, _, _, _, _]) (st' := [_, _]) rfl ?_
              refine je_iald jb_X12_ringTour rfl (pc' := 117) rfl (n := 2048) (f := _) (jh_at (a := 53) rfl) (by first | omega | exact (hM _ _).1 | exact (hM _ _).2) (by first | omega | exact (hM _ _).1 | exact (hM _ _).2) (by first | omega | exact (hM _ _).1 | exact (hM _ _).2) ?_
              rw [gBm_51]
              refine je_ps jb_X12_ringTour 1 (pc' := 120) (ls' := [_, _, _, _, _, _, _, _, _, _, _]) (st' := [_, _]) rfl ?_
              refine je_idiv jb_X12_ringTour rfl (pc' := 121) rfl (by first | omega | exact (hM _ _).1 | exact (hM _ _).2) (by first | omega | exact (hM _ _).1 | exact (hM _ _).2) (by first | omega | exact (hM _ _).1 | exact (hM _ _).2) (by first | omega | exact (hM _ _).1 | exact (hM _ _).2) ?_
              refine je_ps jb_X12_ringTour 2 (pc' := 124) (ls' := [_, _, _, _, _, _, _, _, _, _, _]) (st' := [_]) rfl ?_
              refine je_get jb_X12_ringTour rfl (pc' := 127) rfl (jh_at (a := 45) rfl) (by rfl) (by rfl) ?_
              refine je_ps jb_X12_ringTour 1 (pc' := 129) (ls' := [_, _, _, _, _, _, _, _, _, _, _]) (st' := [_, _]) rfl ?_
              refine je_iald jb_X12_ringTour rfl (pc' := 130) rfl (n := 2048) (f := _) (jh_at (a := 53) rfl) (by first | omega | exact (hM _ _).1 | exact (hM _ _).2) (by first | omega | exact (hM _ _).1 | exact (hM _ _).2) (by first | omega | exact (hM _ _).1 | exact (hM _ _).2) ?_
              rw [gBm_51]
              refine je_ps jb_X12_ringTour 1 (pc' := 133) (ls' := [_, _, _, _, _, _, _, _, _, _, _]) (st' := [_, _]) rfl ?_
              refine je_irem jb_X12_ringTour rfl (pc' := 134) rfl (by first | omega | exact (hM _ _).1 | exact (hM _ _).2) (by first | omega | exact (hM _ _).1 | exact (hM _ _).2) (by first | omega | exact (hM _ _).1 | exact (hM _ _).2) (by first | omega | exact (hM _ _).1 | exact (hM _ _).2) ?_
              refine je_ps jb_X12_ringTour 3 (pc' := 139) (ls' := [_, _, _, _, _, _, _, _, _, _, _]) (st' := [_, _]) rfl ?_
              refine je_icmpne jb_X12_ringTour rfl (t := 161) rfl (pc' := 142) rfl (by first | omega | exact (hM _ _).1 | exact (hM _ _).2) (by first | omega | exact (hM _ _).1 | exact (hM _ _).2) (by first | omega | exact (hM _ _).1 | exact (hM _ _).2) (by first | omega | exact (hM _ _).1 | exact (hM _ _).2) (fun c139 => ?_) (fun c139 => ?_)
              · first | (exfalso; omega) | (cases c139; done) | (exfalso; simp_all; done)
              · refine je_ps jb_X12_ringTour 2 (pc' := 145) (ls' := [_, _, _, _, _, _, _, _, _, _, _]) (st' := [_, _]) rfl ?_
                refine je_icmpne jb_X12_ringTour rfl (t := 161) rfl (pc' := 148) rfl (by first | omega | exact (hM _ _).1 | exact (hM _ _).2) (by first | omega | exact (hM _ _).1 | exact (hM _ _).2) (by first | omega | exact (hM _ _).1 | exact (hM _ _).2) (by first | omega | exact (hM _ _).1 | exact (hM _ _).2) (fun c145 => ?_) (fun c145 => ?_)
                · first | (exfalso; omega) | (cases c145; done) | (exfalso; simp_all; done)
                · refine je_ps jb_X12_ringTour 1 (pc' := 149) (ls' := [_, _, _, _, _, _, _, _, _, _, _]) (st' := [_]) rfl ?_
                  refine je_get jb_X12_ringTour rfl (pc' := 152) rfl (jh_at (a := 45) rfl) (by rfl) (by rfl) ?_
                  refine je_ps jb_X12_ringTour 1 (pc' := 153) (ls' := [_, _, _, _, _, _, _, _, _, _, _]) (st' := [_, _]) rfl ?_
                  refine je_get jb_X12_ringTour rfl (pc' := 156) rfl (jh_at (a := 45) rfl) (by rfl) (by rfl) ?_
                  refine je_ps jb_X12_ringTour 1 (pc' := 158) (ls' := [_, _, _, _, _, _, _, _, _, _, _]) (st' := [_, _, _]) rfl ?_
                  refine je_iald jb_X12_ringTour rfl (pc' := 159) rfl (n := 2048) (f := _) (jh_at (a := 53) rfl) (by first | omega | exact (hM _ _).1 | exact (hM _ _).2) (by first | omega | exact (hM _ _).1 | exact (hM _ _).2) (by first | omega | exact (hM _ _).1 | exact (hM _ _).2) ?_
                  rw [gBm_51, hq]
                  refine je_iald jb_X12_ringTour rfl (pc' := 160) rfl (n := 2048) (f := _) (jh_at (a := 52) rfl) (by first | omega | exact (hM _ _).1 | exact (hM _ _).2) (by first | omega | exact (hM _ _).1 | exact (hM _ _).2) (by first | omega | exact (hM _ _).1 | exact (hM _ _).2) ?_
                  rw [gBm_50, hD]
                  exact je_ret jb_X12_ringTour rfl (by rfl) ⟨_, rfl, rfl, (gD.rfl' m).b _ _⟩
        · first | (exfalso; omega) | (cases c51; done) | (exfalso; simp_all; done)
    · first | (exfalso; omega) | (cases c11; done) | (exfalso; simp_all; done)
end C44
