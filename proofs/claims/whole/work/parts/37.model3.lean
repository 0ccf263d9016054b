/-! THE OTHER SIDE: products, inverses, powers -/
section C37
variable {sc : Nat × (Nat → Int32)} {m : Nat → Int → Int} {r : Nat → Nat → Value} {T : jx_H} {σ : jx_H}
/-- another memory of the other side: only rows for what is tried are otherwise -/
def gX (m m' : Nat → Int → Int) : Prop := (∀ b : Nat, b ≠ 47 → b ≠ 48 → m' b = m b) ∧ (∀ w p : Int, w < 6 → 0 ≤ p → p < 25 → m' 47 (25 * w + p) = m 47 (25 * w + p)) ∧ ∀ w : Int, w < 6 → m' 48 w = m 48 w
theorem gX.rfl' (m : Nat → Int → Int) : gX m m := ⟨fun _ _ _ => rfl, fun _ _ _ _ _ => rfl, fun _ _ => rfl⟩
theorem gX.tr {m m1 m2 : Nat → Int → Int} (h : gX m m1) (h2 : gX m1 m2) : gX m m2 :=
  ⟨fun b q1 q2 => (h2.1 b q1 q2).trans (h.1 b q1 q2), fun w p q0 q1 q2 => (h2.2.1 w p q0 q1 q2).trans (h.2.1 w p q0 q1 q2), fun w q => (h2.2.2 w q).trans (h.2.2 w q)⟩
theorem gX.w {m m1 : Nat → Int → Int} (h : gX m m1) {w : Int} (hw : 6 ≤ w) (L : Int → Int) (e : Int) : gX m (gW m1 w L e) := by
  refine h.tr ⟨fun b q1 q2 => gW_43 m1 w L e q1 q2, fun v p q0 q1 q2 => ?_, fun v q => ?_⟩
  · rw [gW_45, gF_ne q1 q2 (by omega)]
  · rw [gW_46, ju_ne (by omega)]
theorem gX.st {m m1 : Nat → Int → Int} (h : gX m m1) {s n k : Int} (g : gSt m s n k) : gSt m1 s n k := by
  unfold gSt at *
  rwa [h.1 45 (by decide) (by decide)]
theorem gX.raw {m m1 : Nat → Int → Int} (h : gX m m1) {w e : Int} {L : Int → Int} (hw : w < 6) (g : gR m w L e) : gR m1 w L e :=
  ⟨g.1, fun p h0 h1 => (h.2.1 w p hw h0 h1).trans (g.2.1 p h0 h1), (h.2.2 w hw).trans g.2.2⟩
theorem gX.k {m m1 : Nat → Int → Int} (h : gX m m1) {w s n k e : Int} {L : Int → Int} (hw : w < 6) (g : gWk m w s n k L e) : gWk m1 w s n k L e :=
  (h.raw hw g.raw).k (h.st g.1) g.2.2.2.2.1 g.2.2.2.2.2
theorem fTu_0 {s n k c : Int} {L : Int → Int} (h : fS s n k) (hL : fL n k L) : fTu s n k L c 0 = L := by
  unfold fTu
  split
  · have q := hL.1 (fPl s n c)
    have hk : 2 ≤ k ∧ k ≤ 5 := h.2
    rw [Int.add_zero, Int.emod_eq_of_lt q.1 q.2, ju_self]
  · rfl
theorem fAt_in {L : Int → Int} {p : Int} (h : 0 ≤ p ∧ p < 25) : fAt L p = L p := by
  unfold fAt
  rw [if_pos h]
theorem fMulL_no {s n k e : Int} {L L2 : Int → Int} (h : fS s n k) (hL : fL n k L) {v : Nat} (hv : fAt L2 (v : Int) = 0) : fMulL s n k L e L2 (v + 1) = fMulL s n k L e L2 v := by
  show fTu s n k (fMulL s n k L e L2 v) _ (fAt L2 (v : Int)) = _
  rw [hv, fTu_0 h (fMulL_ok h hL v)]
theorem fMulL_n {s n k e : Int} {L L2 : Int → Int} (h : fS s n k) (hL : fL n k L) (hL2 : fL n k L2) : ∀ j : Nat, fMulL s n k L e L2 (n.toNat + j) = fMulL s n k L e L2 n.toNat
  | 0 => rfl
  | j + 1 => by
    have gs := h
    unfold fS at gs
    rw [← Nat.add_assoc, fMulL_no h hL (by unfold fAt; split; exact hL2.2 _ (by omega); rfl)]
    exact fMulL_n h hL hL2 j
theorem fMulL_25 {s n k e : Int} {L L2 : Int → Int} (h : fS s n k) (hL : fL n k L) (hL2 : fL n k L2) : fMulL s n k L e L2 25 = fMulL s n k L e L2 n.toNat := by
  have gs := h
  unfold fS at gs
  rw [← fMulL_n (e := e) h hL hL2 (25 - n.toNat), show n.toNat + (25 - n.toNat) = 25 by omega]
theorem fInvL_no {s n k e2 : Int} {L2 : Int → Int} (h : fS s n k) {v : Nat} (hv : fAt L2 (v : Int) = 0) : fInvL s n k L2 e2 (v + 1) = fInvL s n k L2 e2 v := by
  show fTu s n k (fInvL s n k L2 e2 v) _ (-(fAt L2 (v : Int))) = _
  rw [hv, show -(0 : Int) = 0 from rfl, fTu_0 h (fInvL_ok h v)]
theorem fInvL_n {s n k e2 : Int} {L2 : Int → Int} (h : fS s n k) (hL2 : fL n k L2) : ∀ j : Nat, fInvL s n k L2 e2 (n.toNat + j) = fInvL s n k L2 e2 n.toNat
  | 0 => rfl
  | j + 1 => by
    have gs := h
    unfold fS at gs
    rw [← Nat.add_assoc, fInvL_no h (by unfold fAt; split; exact hL2.2 _ (by omega); rfl)]
    exact fInvL_n h hL2 j
theorem fInvL_25 {s n k e2 : Int} {L2 : Int → Int} (h : fS s n k) (hL2 : fL n k L2) : fInvL s n k L2 e2 25 = fInvL s n k L2 e2 n.toNat := by
  have gs := h
  unfold fS at gs
  rw [← fInvL_n (e2 := e2) h hL2 (25 - n.toNat), show n.toNat + (25 - n.toNat) = 25 by omega]
/-- two corners don't come to one -/
theorem fRe_inj {s n k b : Int} (h : fS s n k) {p q : Nat} (hp : (p : Int) < n) (hq : (q : Int) < n) (e : fRe s n (fLo s + (p : Int)) b = fRe s n (fLo s + (q : Int)) b) : p = q := by
  have gl := fLo_c s
  unfold fRe at e
  unfold fS at h
  by_cases h1 : s = 1
  · rw [if_pos h1, if_pos h1] at e
    rcases (by omega : n = 3 ∨ n = 4 ∨ n = 5 ∨ n = 6 ∨ n = 7 ∨ n = 8) with h2 | h2 | h2 | h2 | h2 | h2 <;> subst h2 <;> omega
  · rw [if_neg h1, if_neg h1] at e
    omega
/-- where nothing has come yet, nothing shows -/
theorem fInvL_free {s n k e2 : Int} {L2 : Int → Int} (h : fS s n k) : ∀ (v q : Nat), (q : Int) < n → v ≤ q → fC s n (fRe s n (fLo s + (q : Int)) (-e2)) → fInvL s n k L2 e2 v (fRe s n (fLo s + (q : Int)) (-e2) - fLo s) = 0
  | 0, _, _, _, _ => rfl
  | v + 1, q, hq, hv, hc => by
    have ih := fInvL_free (L2 := L2) h v q hq (by omega) hc
    show fTu s n k (fInvL s n k L2 e2 v) (fRe s n (fLo s + (v : Int)) (-e2)) _ _ = 0
    have pl := fPl_i h (fRe s n (fLo s + (v : Int)) (-e2))
    unfold fTu
    split
    · rename_i h1
      rw [ju_ne]
      · exact ih
      · intro e
        have e1 : fPl s n (fRe s n (fLo s + (v : Int)) (-e2)) = fRe s n (fLo s + (v : Int)) (-e2) - fLo s := by
          rcases pl with q1 | q1
          · exact q1.2.1
          · rw [h1] at q1; exact absurd q1.1 (by decide)
        rw [e1] at e
        have := fRe_inj (b := -e2) (p := q) (q := v) h hq (by omega) (by omega)
        omega
    · exact ih
theorem fMul_f {s n k e e2 : Int} {L L2 : Int → Int} (h : ¬ fFitP s n L2 e) : (fMul s n k L e L2 e2).1 = false := by
  unfold fMul
  rw [if_neg (by rintro ⟨_, q⟩; exact h (fFit_iff.mp q))]
theorem fMul_t {s n k e e2 : Int} {L L2 : Int → Int} (h : fFitP s n L2 e) : (fMul s n k L e L2 e2).1 = fHas s n (fRe s n e e2) := by
  unfold fMul
  cases q : fHas s n (fRe s n e e2) with
  | true => rw [if_pos ⟨rfl, fFit_iff.mpr h⟩]
  | false => rw [if_neg (by rintro ⟨q1, _⟩; cases q1)]
theorem fMul_2 {s n k e e2 : Int} {L L2 : Int → Int} (h : (fMul s n k L e L2 e2).1 = true) : fMul s n k L e L2 e2 = (true, fMulL s n k L e L2 25, fRe s n e e2) := by
  unfold fMul at *
  split at h
  · rename_i q
    rw [if_pos q]
  · cases h
theorem fFit_n {s n k b : Int} {L : Int → Int} (h : fS s n k) (hL : fL n k L) (f : ∀ p : Int, 0 ≤ p → p < n.toNat → 0 < L p → fHas s n (fRe s n (fLo s + p) b) = true) : fFitP s n L b := by
  intro p h0 h1 h2
  by_cases q : p < n.toNat
  · exact f p h0 q h2
  · have := hL.2 p (by omega)
    omega
theorem fRd_i {s n k x : Int} (h : fS s n k) (hx : -1000 ≤ x ∧ x ≤ 1000) : -1000 ≤ fRd s n x ∧ fRd s n x ≤ 1000 := by
  unfold fRd
  unfold fS at h
  by_cases h1 : s = 1
  · rw [if_pos h1]
    have := Int.emod_nonneg x (show n ≠ 0 by omega)
    have := Int.emod_lt_of_pos x (show 0 < n by omega)
    omega
  · rw [if_neg h1]
    omega
theorem k_gisTimes {w w2 to s n k e e2 : Int} {L L2 : Int → Int} (g : gWk m w s n k L e) (g2 : gWk m w2 s n k L2 e2) (ht : 0 ≤ to ∧ to < 9) (h1 : w ≠ to) (h2 : w2 ≠ to) : jq sc 4 jm_X12_isTimes [.ref 45, .int (jI w), .int (jI w2), .int (jI to)] (jh m r T) (fun v σ => ∃ L' e', v = some (.int (jI (jb (fMul s n k L e L2 e2).1))) ∧ σ = jh (gW m to L' e') r T ∧ ((fMul s n k L e L2 e2).1 = true → L' = (fMul s n k L e L2 e2).2.1 ∧ e' = (fMul s n k L e L2 e2).2.2)) := by
  have gl := fLo_c s
  have gs := g.1.2
  have gk : 2 ≤ k ∧ k ≤ 5 := gs.2
  have gc := fC_i gs g.2.2.2.2.2
  have gd := fC_i gs g2.2.2.2.2.2
  have hw := g.2.1
  have hw2 := g2.2.1
  have ge := g.2.2.2.1
  have hL := g.2.2.2.2.1
  have hL2 := g2.2.2.2.2.1
  have gn : 3 ≤ n ∧ n ≤ 25 := by unfold fS at gs; omega
  refine je_in jb_X12_isTimes rfl (ls := [_, _, _, _, _, _, _]) rfl ?_
  refine je_ps jb_X12_isTimes 1 (pc' := 1) (ls' := [_, _, _, _, _, _, _]) (st' := [_]) rfl ?_
  refine je_get jb_X12_isTimes rfl (pc' := 4) rfl (jh_at (a := 45) rfl) (by rfl) (by rfl) ?_
  refine je_ps jb_X12_isTimes 1 (pc' := 5) (ls' := [_, _, _, _, _, _, _]) (st' := [_, _]) rfl ?_
  refine je_iald jb_X12_isTimes rfl (pc' := 6) rfl (n := 9) (f := _) (jh_at (a := 48) rfl) (by first | omega | exact (hM _ _).1 | exact (hM _ _).2) (by first | omega | exact (hM _ _).1 | exact (hM _ _).2) (by first | omega | exact (hM _ _).1 | exact (hM _ _).2) ?_
  rw [ge]
  refine je_ps jb_X12_isTimes 4 (pc' := 11) (ls' := [_, _, _, _, _, _, _]) (st' := [_, _, _]) rfl ?_
  refine je_cvP' jb_X12_isTimes rfl (pc' := 14) rfl (jh_at (a := 45) rfl) (by rfl) (by first | decide | exact Nat.ble_eq_true_of_le (by omega)) (k_glikens g.raw (by omega) h1) (st' := []) rfl ?_
  refine je_ps jb_X12_isTimes 1 (pc' := 15) (ls' := [_, _, _, _, _, _, _]) (st' := [_]) rfl ?_
  refine je_get jb_X12_isTimes rfl (pc' := 18) rfl (jh_at (a := 45) rfl) (by rfl) (by rfl) ?_
  refine je_ps jb_X12_isTimes 1 (pc' := 20) (ls' := [_, _, _, _, _, _, _]) (st' := []) rfl ?_
  refine je_loop (fun (v : Nat) ls σ' => ∃ x, ls = [.ref 45, .int (jI w), .int (jI w2), .int (jI to), .int (jI e), .int (jI (fLo s + (v : Int))), x] ∧ σ' = jh (gW m to (fMulL s n k L e L2 v) e) r T ∧ ∀ p : Int, 0 ≤ p → p < v → 0 < L2 p → fHas s n (fRe s n (fLo s + p) e) = true) (n.toNat) ⟨_, by rw [gW_43 m to L e (by decide) (by decide), g.1.1.2.2.1, show fLo s + ((0 : Nat) : Int) = fLo s by omega], rfl, fun p h0 h1 => by omega⟩ (fun v hv ls σ' gv kv => ?_) (fun ls σ' gv => ?_)
  · obtain ⟨x, rfl, rfl, fv⟩ := gv
    have gok := fMulL_ok (e := e) (L2 := L2) gs hL v
    have gT := gWk.w (m := m) g.1 ht gok g.2.2.2.2.2
    have gh := gWk.o g2 h2 (fMulL s n k L e L2 v) e
    obtain ⟨q1, q2, q3, q4⟩ := gT.1.1
    have gr := fRe_i (c := fLo s + (v : Int)) (b := e) gs (by omega) (by omega)
    rw [fRe_Rd] at gr
    have ga := hL2.1 (v : Int)
    have gb := gok.1 (fRd s n (fLo s + (v : Int) + e) - fLo s)
    refine je_ps jb_X12_isTimes 2 (pc' := 23) (ls' := [_, _, _, _, _, _, _]) (st' := [_, _]) rfl ?_
    refine je_get jb_X12_isTimes rfl (pc' := 26) rfl (jh_at (a := 45) rfl) (by rfl) (by rfl) ?_
    refine je_ps jb_X12_isTimes 1 (pc' := 27) (ls' := [_, _, _, _, _, _, _]) (st' := [_, _, _]) rfl ?_
    refine je_get jb_X12_isTimes rfl (pc' := 30) rfl (jh_at (a := 45) rfl) (by rfl) (by rfl) ?_
    refine je_iadd jb_X12_isTimes rfl (pc' := 31) rfl ?_
    refine je_icmpge jb_X12_isTimes rfl (t := 104) rfl (pc' := 34) rfl (by first | omega | exact (hM _ _).1 | exact (hM _ _).2) (by first | omega | exact (hM _ _).1 | exact (hM _ _).2) (by first | omega | exact (hM _ _).1 | exact (hM _ _).2) (by first | omega | exact (hM _ _).1 | exact (hM _ _).2) (fun c31 => ?_) (fun c31 => ?_)
    · first | (exfalso; omega) | (cases c31; done) | (exfalso; simp_all; done)
    · refine je_ps jb_X12_isTimes 3 (pc' := 39) (ls' := [_, _, _, _, _, _, _]) (st' := [_, _, _]) rfl ?_
      refine je_iadd jb_X12_isTimes rfl (pc' := 40) rfl ?_
      refine je_cvP' jb_X12_isTimes rfl (pc' := 43) rfl (jh_at (a := 45) rfl) (by rfl) (by first | decide | exact Nat.ble_eq_true_of_le (by omega)) (c_X12_round gT.1 (by omega)) (st' := [_]) rfl ?_
      refine je_ps jb_X12_isTimes 4 (pc' := 49) (ls' := [_, _, _, _, _, _, _]) (st' := [_, _, _]) rfl ?_
      refine je_cvP' jb_X12_isTimes rfl (pc' := 52) rfl (jh_at (a := 45) rfl) (by rfl) (by first | decide | exact Nat.ble_eq_true_of_le (by omega)) (k_gat gh (by unfold fC; omega)) (st' := [_]) rfl ?_
      rw [show fLo s + (v : Int) - fLo s = (v : Int) by omega]
      refine je_ifle jb_X12_isTimes rfl (t := 66) rfl (pc' := 55) rfl (by first | omega | exact (hM _ _).1 | exact (hM _ _).2) (by first | omega | exact (hM _ _).1 | exact (hM _ _).2) (fun c52 => ?_) (fun c52 => ?_)
      · refine je_ps jb_X12_isTimes 3 (pc' := 70) (ls' := [_, _, _, _, _, _, _]) (st' := [_, _, _]) rfl ?_
        refine je_cvP' jb_X12_isTimes rfl (pc' := 73) rfl (jh_at (a := 45) rfl) (by rfl) (by first | decide | exact Nat.ble_eq_true_of_le (by omega)) (k_gat gh (by unfold fC; omega)) (st' := [_]) rfl ?_
        rw [show fLo s + (v : Int) - fLo s = (v : Int) by omega]
        refine je_ifle jb_X12_isTimes rfl (t := 98) rfl (pc' := 76) rfl (by first | omega | exact (hM _ _).1 | exact (hM _ _).2) (by first | omega | exact (hM _ _).1 | exact (hM _ _).2) (fun c73 => ?_) (fun c73 => ?_)
        · refine je_iinc jb_X12_isTimes rfl (pc' := 101) rfl rfl (ls' := [_, _, _, _, _, _, _]) rfl ?_
          refine je_ps jb_X12_isTimes 1 (pc' := 20) (ls' := [_, _, _, _, _, _, _]) (st' := []) rfl ?_
          first | (exfalso; omega) | refine kv _ _ ⟨_, by rw [show fLo s + ((v + 1 : Nat) : Int) = fLo s + (v : Int) + 1 by omega], jh_eq ?_, fun p h0 h3 h4 => ?_⟩
          all_goals first | (rw [fMulL_no gs hL (by rw [fAt_in (by omega)]; omega)]; done) | (rw [gW_W]; show _ = gW m to (fTu s n k (fMulL s n k L e L2 v) (fRe s n (fLo s + (v : Int)) e) (fAt L2 (v : Int))) e; rw [fTu_at (show fC s n (fRe s n (fLo s + (v : Int)) e) from fHas_t c61), fAt_in (by omega)]; rfl) | (by_cases h5 : p = v <;> first | (subst h5; exact c61) | (subst h5; exfalso; omega) | exact fv p h0 (by omega) h4)
        · refine je_ps jb_X12_isTimes 6 (pc' := 84) (ls' := [_, _, _, _, _, _, _]) (st' := [_, _, _, _, _, _]) rfl ?_
          refine je_cvP' jb_X12_isTimes rfl (pc' := 87) rfl (jh_at (a := 45) rfl) (by rfl) (by first | decide | exact Nat.ble_eq_true_of_le (by omega)) (k_gat gT (by first | exact fHas_t c61 | (exfalso; omega))) (st' := [_, _, _, _]) rfl ?_
          refine je_ps jb_X12_isTimes 3 (pc' := 91) (ls' := [_, _, _, _, _, _, _]) (st' := [_, _, _, _, _, _, _]) rfl ?_
          refine je_cvP' jb_X12_isTimes rfl (pc' := 94) rfl (jh_at (a := 45) rfl) (by rfl) (by first | decide | exact Nat.ble_eq_true_of_le (by omega)) (k_gat gh (by unfold fC; omega)) (st' := [_, _, _, _, _]) rfl ?_
          rw [show fLo s + (v : Int) - fLo s = (v : Int) by omega]
          refine je_iadd jb_X12_isTimes rfl (pc' := 95) rfl ?_
          refine je_cvP' jb_X12_isTimes rfl (pc' := 98) rfl (jh_at (a := 45) rfl) (by rfl) (by first | decide | exact Nat.ble_eq_true_of_le (by omega)) (k_gshows gT (by first | exact fHas_t c61 | (exfalso; omega)) (by omega)) (st' := []) rfl ?_
          refine je_iinc jb_X12_isTimes rfl (pc' := 101) rfl rfl (ls' := [_, _, _, _, _, _, _]) rfl ?_
          refine je_ps jb_X12_isTimes 1 (pc' := 20) (ls' := [_, _, _, _, _, _, _]) (st' := []) rfl ?_
          first | (exfalso; omega) | refine kv _ _ ⟨_, by rw [show fLo s + ((v + 1 : Nat) : Int) = fLo s + (v : Int) + 1 by omega], jh_eq ?_, fun p h0 h3 h4 => ?_⟩
          all_goals first | (rw [fMulL_no gs hL (by rw [fAt_in (by omega)]; omega)]; done) | (rw [gW_W]; show _ = gW m to (fTu s n k (fMulL s n k L e L2 v) (fRe s n (fLo s + (v : Int)) e) (fAt L2 (v : Int))) e; rw [fTu_at (show fC s n (fRe s n (fLo s + (v : Int)) e) from fHas_t c61), fAt_in (by omega)]; rfl) | (by_cases h5 : p = v <;> first | (subst h5; exact c61) | (subst h5; exfalso; omega) | exact fv p h0 (by omega) h4)
      · refine je_ps jb_X12_isTimes 2 (pc' := 58) (ls' := [_, _, _, _, _, _, _]) (st' := [_, _]) rfl ?_
        refine je_cvP' jb_X12_isTimes rfl (pc' := 61) rfl (jh_at (a := 45) rfl) (by rfl) (by first | decide | exact Nat.ble_eq_true_of_le (by omega)) (c_X12_isCorner gT.1 (by omega)) (st' := [_]) rfl ?_
        refine je_ifneb jb_X12_isTimes rfl (t := 66) rfl (pc' := 64) rfl (fun c61 => ?_) (fun c61 => ?_)
        · refine je_ps jb_X12_isTimes 3 (pc' := 70) (ls' := [_, _, _, _, _, _, _]) (st' := [_, _, _]) rfl ?_
          refine je_cvP' jb_X12_isTimes rfl (pc' := 73) rfl (jh_at (a := 45) rfl) (by rfl) (by first | decide | exact Nat.ble_eq_true_of_le (by omega)) (k_gat gh (by unfold fC; omega)) (st' := [_]) rfl ?_
          rw [show fLo s + (v : Int) - fLo s = (v : Int) by omega]
          refine je_ifle jb_X12_isTimes rfl (t := 98) rfl (pc' := 76) rfl (by first | omega | exact (hM _ _).1 | exact (hM _ _).2) (by first | omega | exact (hM _ _).1 | exact (hM _ _).2) (fun c73 => ?_) (fun c73 => ?_)
          · refine je_iinc jb_X12_isTimes rfl (pc' := 101) rfl rfl (ls' := [_, _, _, _, _, _, _]) rfl ?_
            refine je_ps jb_X12_isTimes 1 (pc' := 20) (ls' := [_, _, _, _, _, _, _]) (st' := []) rfl ?_
            first | (exfalso; omega) | refine kv _ _ ⟨_, by rw [show fLo s + ((v + 1 : Nat) : Int) = fLo s + (v : Int) + 1 by omega], jh_eq ?_, fun p h0 h3 h4 => ?_⟩
            all_goals first | (rw [fMulL_no gs hL (by rw [fAt_in (by omega)]; omega)]; done) | (rw [gW_W]; show _ = gW m to (fTu s n k (fMulL s n k L e L2 v) (fRe s n (fLo s + (v : Int)) e) (fAt L2 (v : Int))) e; rw [fTu_at (show fC s n (fRe s n (fLo s + (v : Int)) e) from fHas_t c61), fAt_in (by omega)]; rfl) | (by_cases h5 : p = v <;> first | (subst h5; exact c61) | (subst h5; exfalso; omega) | exact fv p h0 (by omega) h4)
          · refine je_ps jb_X12_isTimes 6 (pc' := 84) (ls' := [_, _, _, _, _, _, _]) (st' := [_, _, _, _, _, _]) rfl ?_
            refine je_cvP' jb_X12_isTimes rfl (pc' := 87) rfl (jh_at (a := 45) rfl) (by rfl) (by first | decide | exact Nat.ble_eq_true_of_le (by omega)) (k_gat gT (by first | exact fHas_t c61 | (exfalso; omega))) (st' := [_, _, _, _]) rfl ?_
            refine je_ps jb_X12_isTimes 3 (pc' := 91) (ls' := [_, _, _, _, _, _, _]) (st' := [_, _, _, _, _, _, _]) rfl ?_
            refine je_cvP' jb_X12_isTimes rfl (pc' := 94) rfl (jh_at (a := 45) rfl) (by rfl) (by first | decide | exact Nat.ble_eq_true_of_le (by omega)) (k_gat gh (by unfold fC; omega)) (st' := [_, _, _, _, _]) rfl ?_
            rw [show fLo s + (v : Int) - fLo s = (v : Int) by omega]
            refine je_iadd jb_X12_isTimes rfl (pc' := 95) rfl ?_
            refine je_cvP' jb_X12_isTimes rfl (pc' := 98) rfl (jh_at (a := 45) rfl) (by rfl) (by first | decide | exact Nat.ble_eq_true_of_le (by omega)) (k_gshows gT (by first | exact fHas_t c61 | (exfalso; omega)) (by omega)) (st' := []) rfl ?_
            refine je_iinc jb_X12_isTimes rfl (pc' := 101) rfl rfl (ls' := [_, _, _, _, _, _, _]) rfl ?_
            refine je_ps jb_X12_isTimes 1 (pc' := 20) (ls' := [_, _, _, _, _, _, _]) (st' := []) rfl ?_
            first | (exfalso; omega) | refine kv _ _ ⟨_, by rw [show fLo s + ((v + 1 : Nat) : Int) = fLo s + (v : Int) + 1 by omega], jh_eq ?_, fun p h0 h3 h4 => ?_⟩
            all_goals first | (rw [fMulL_no gs hL (by rw [fAt_in (by omega)]; omega)]; done) | (rw [gW_W]; show _ = gW m to (fTu s n k (fMulL s n k L e L2 v) (fRe s n (fLo s + (v : Int)) e) (fAt L2 (v : Int))) e; rw [fTu_at (show fC s n (fRe s n (fLo s + (v : Int)) e) from fHas_t c61), fAt_in (by omega)]; rfl) | (by_cases h5 : p = v <;> first | (subst h5; exact c61) | (subst h5; exfalso; omega) | exact fv p h0 (by omega) h4)
        · refine je_ps jb_X12_isTimes 1 (pc' := 65) (ls' := [_, _, _, _, _, _, _]) (st' := [_]) rfl ?_
          have hf := fMul_f (k := k) (L := L) (e2 := e2) (show ¬ fFitP s n L2 e by intro hq; have := hq v (by omega) (by omega) (by omega); rw [fRe_Rd, c61] at this; cases this)
          rw [hf]
          exact je_ret jb_X12_isTimes rfl (by rfl) ⟨_, _, rfl, rfl, fun h => by cases h⟩
  · obtain ⟨x, rfl, rfl, fv⟩ := gv
    have gok := fMulL_ok (e := e) (L2 := L2) gs hL n.toNat
    have gT := gWk.w (m := m) g.1 ht gok g.2.2.2.2.2
    have gh := gWk.o g2 h2 (fMulL s n k L e L2 n.toNat) e
    obtain ⟨q1, q2, q3, q4⟩ := gT.1.1
    have gr := fRd_i (x := e + e2) gs (by omega)
    refine je_ps jb_X12_isTimes 2 (pc' := 23) (ls' := [_, _, _, _, _, _, _]) (st' := [_, _]) rfl ?_
    refine je_get jb_X12_isTimes rfl (pc' := 26) rfl (jh_at (a := 45) rfl) (by rfl) (by rfl) ?_
    refine je_ps jb_X12_isTimes 1 (pc' := 27) (ls' := [_, _, _, _, _, _, _]) (st' := [_, _, _]) rfl ?_
    refine je_get jb_X12_isTimes rfl (pc' := 30) rfl (jh_at (a := 45) rfl) (by rfl) (by rfl) ?_
    refine je_iadd jb_X12_isTimes rfl (pc' := 31) rfl ?_
    refine je_icmpge jb_X12_isTimes rfl (t := 104) rfl (pc' := 34) rfl (by first | omega | exact (hM _ _).1 | exact (hM _ _).2) (by first | omega | exact (hM _ _).1 | exact (hM _ _).2) (by first | omega | exact (hM _ _).1 | exact (hM _ _).2) (by first | omega | exact (hM _ _).1 | exact (hM _ _).2) (fun c31 => ?_) (fun c31 => ?_)
    · refine je_ps jb_X12_isTimes 1 (pc' := 105) (ls' := [_, _, _, _, _, _, _]) (st' := [_]) rfl ?_
      refine je_get jb_X12_isTimes rfl (pc' := 108) rfl (jh_at (a := 45) rfl) (by rfl) (by rfl) ?_
      refine je_ps jb_X12_isTimes 4 (pc' := 113) (ls' := [_, _, _, _, _, _, _]) (st' := [_, _, _, _, _]) rfl ?_
      refine je_get jb_X12_isTimes rfl (pc' := 116) rfl (jh_at (a := 45) rfl) (by rfl) (by rfl) ?_
      refine je_ps jb_X12_isTimes 1 (pc' := 117) (ls' := [_, _, _, _, _, _, _]) (st' := [_, _, _, _, _, _]) rfl ?_
      refine je_iald jb_X12_isTimes rfl (pc' := 118) rfl (n := 9) (f := _) (jh_at (a := 48) rfl) (by first | omega | exact (hM _ _).1 | exact (hM _ _).2) (by first | omega | exact (hM _ _).1 | exact (hM _ _).2) (by first | omega | exact (hM _ _).1 | exact (hM _ _).2) ?_
      rw [gh.2.2.2.1]
      refine je_iadd jb_X12_isTimes rfl (pc' := 119) rfl ?_
      refine je_cvP' jb_X12_isTimes rfl (pc' := 122) rfl (jh_at (a := 45) rfl) (by rfl) (by first | decide | exact Nat.ble_eq_true_of_le (by omega)) (c_X12_round gT.1 (by omega)) (st' := [_, _, _]) rfl ?_
      refine je_iastI jb_X12_isTimes rfl (pc' := 123) rfl (n := 9) (a := 48) rfl (fun _ => rfl) (by first | omega | exact (hM _ _).1 | exact (hM _ _).2) (by first | omega | exact (hM _ _).1 | exact (hM _ _).2) (by first | omega | exact (hM _ _).1 | exact (hM _ _).2) ?_
      rw [gW_ee]
      refine je_ps jb_X12_isTimes 2 (pc' := 125) (ls' := [_, _, _, _, _, _, _]) (st' := [_, _]) rfl ?_
      refine je_get jb_X12_isTimes rfl (pc' := 128) rfl (jh_at (a := 45) rfl) (by rfl) (by rfl) ?_
      refine je_ps jb_X12_isTimes 1 (pc' := 129) (ls' := [_, _, _, _, _, _, _]) (st' := [_, _, _]) rfl ?_
      refine je_iald jb_X12_isTimes rfl (pc' := 130) rfl (n := 9) (f := _) (jh_at (a := 48) rfl) (by first | omega | exact (hM _ _).1 | exact (hM _ _).2) (by first | omega | exact (hM _ _).1 | exact (hM _ _).2) (by first | omega | exact (hM _ _).1 | exact (hM _ _).2) ?_
      rw [gW_46, ju_same]
      refine je_cvP' jb_X12_isTimes rfl (pc' := 133) rfl (jh_at (a := 45) rfl) (by rfl) (by first | decide | exact Nat.ble_eq_true_of_le (by omega)) (c_X12_isCorner (g.1.w _ _ _) (by omega)) (st' := [_]) rfl ?_
      have hf := fMul_t (k := k) (L := L) (e2 := e2) (fFit_n gs hL2 fv)
      rw [← fRe_Rd, ← hf]
      exact je_retb jb_X12_isTimes rfl ⟨_, _, rfl, rfl, fun h => by rw [fMul_2 h, fMulL_25 gs hL hL2]; exact ⟨rfl, rfl⟩⟩
    · first | (exfalso; omega) | (cases c31; done) | (exfalso; simp_all; done)
theorem fInv_e {s n e : Int} : fRd s n (-e) = fRe s n 0 (-e) := by rw [fRe_Rd, Int.zero_add]
theorem k_gisInverse {w to s n k e2 : Int} {L2 : Int → Int} (g2 : gWk m w s n k L2 e2) (ht : 0 ≤ to ∧ to < 9) (h1 : w ≠ to) : jq sc 3 jm_X12_isInverse [.ref 45, .int (jI w), .int (jI to)] (jh m r T) (fun v σ => ∃ L' e', v = some (.int (jI (jb (fFit s n L2 (-e2))))) ∧ σ = jh (gW m to L' e') r T ∧ (fFit s n L2 (-e2) = true → L' = fInvL s n k L2 e2 25 ∧ e' = fRe s n 0 (-e2))) := by
  have gl := fLo_c s
  have gs := g2.1.2
  have gk : 2 ≤ k ∧ k ≤ 5 := gs.2
  have gd := fC_i gs g2.2.2.2.2.2
  have hw2 := g2.2.1
  have hL2 := g2.2.2.2.2.1
  have gn : 3 ≤ n ∧ n ≤ 25 := by unfold fS at gs; omega
  refine je_in jb_X12_isInverse rfl (ls := [_, _, _, _, _]) rfl ?_
  refine je_ps jb_X12_isInverse 2 (pc' := 2) (ls' := [_, _, _, _, _]) (st' := [_, _]) rfl ?_
  refine je_cvP' jb_X12_isInverse rfl (pc' := 5) rfl (jh_at (a := 45) rfl) (by rfl) (by first | decide | exact Nat.ble_eq_true_of_le (by omega)) (k_gbares ht) (st' := []) rfl ?_
  refine je_ps jb_X12_isInverse 1 (pc' := 6) (ls' := [_, _, _, _, _]) (st' := [_]) rfl ?_
  refine je_get jb_X12_isInverse rfl (pc' := 9) rfl (jh_at (a := 45) rfl) (by rfl) (by rfl) ?_
  refine je_ps jb_X12_isInverse 1 (pc' := 10) (ls' := [_, _, _, _, _]) (st' := []) rfl ?_
  refine je_loop (fun (v : Nat) ls σ' => ∃ x, ls = [.ref 45, .int (jI w), .int (jI to), .int (jI (fLo s + (v : Int))), x] ∧ σ' = jh (gW m to (fInvL s n k L2 e2 v) 0) r T ∧ ∀ p : Int, 0 ≤ p → p < v → 0 < L2 p → fHas s n (fRe s n (fLo s + p) (-e2)) = true) (n.toNat) ⟨_, by rw [gW_43 m to (fun _ => 0) 0 (by decide) (by decide), g2.1.1.2.2.1, show fLo s + ((0 : Nat) : Int) = fLo s by omega], rfl, fun p h0 h1 => by omega⟩ (fun v hv ls σ' gv kv => ?_) (fun ls σ' gv => ?_)
  · obtain ⟨x, rfl, rfl, fv⟩ := gv
    have gok := fInvL_ok (e2 := e2) (L2 := L2) gs v
    have gT := gWk.w (m := m) g2.1 ht gok (fC_0 gs)
    have gh := gWk.o g2 h1 (fInvL s n k L2 e2 v) 0
    obtain ⟨q1, q2, q3, q4⟩ := gT.1.1
    have gr := fRe_i (c := fLo s + (v : Int)) (b := -e2) gs (by omega) (by omega)
    rw [fRe_Rd] at gr
    have ga := hL2.1 (v : Int)
    refine je_ps jb_X12_isInverse 2 (pc' := 12) (ls' := [_, _, _, _, _]) (st' := [_, _]) rfl ?_
    refine je_get jb_X12_isInverse rfl (pc' := 15) rfl (jh_at (a := 45) rfl) (by rfl) (by rfl) ?_
    refine je_ps jb_X12_isInverse 1 (pc' := 16) (ls' := [_, _, _, _, _]) (st' := [_, _, _]) rfl ?_
    refine je_get jb_X12_isInverse rfl (pc' := 19) rfl (jh_at (a := 45) rfl) (by rfl) (by rfl) ?_
    refine je_iadd jb_X12_isInverse rfl (pc' := 20) rfl ?_
    refine je_icmpge jb_X12_isInverse rfl (t := 86) rfl (pc' := 23) rfl (by first | omega | exact (hM _ _).1 | exact (hM _ _).2) (by first | omega | exact (hM _ _).1 | exact (hM _ _).2) (by first | omega | exact (hM _ _).1 | exact (hM _ _).2) (by first | omega | exact (hM _ _).1 | exact (hM _ _).2) (fun c20 => ?_) (fun c20 => ?_)
    · first | (exfalso; omega) | (cases c20; done) | (exfalso; simp_all; done)
    · refine je_ps jb_X12_isInverse 3 (pc' := 26) (ls' := [_, _, _, _, _]) (st' := [_, _, _]) rfl ?_
      refine je_get jb_X12_isInverse rfl (pc' := 29) rfl (jh_at (a := 45) rfl) (by rfl) (by rfl) ?_
      refine je_ps jb_X12_isInverse 1 (pc' := 30) (ls' := [_, _, _, _, _]) (st' := [_, _, _, _]) rfl ?_
      refine je_iald jb_X12_isInverse rfl (pc' := 31) rfl (n := 9) (f := _) (jh_at (a := 48) rfl) (by first | omega | exact (hM _ _).1 | exact (hM _ _).2) (by first | omega | exact (hM _ _).1 | exact (hM _ _).2) (by first | omega | exact (hM _ _).1 | exact (hM _ _).2) ?_
      rw [gh.2.2.2.1]
      refine je_isub jb_X12_isInverse rfl (pc' := 32) rfl ?_
      rw [show fLo s + (v : Int) - e2 = fLo s + (v : Int) + -e2 from Int.sub_eq_add_neg]
      refine je_cvP' jb_X12_isInverse rfl (pc' := 35) rfl (jh_at (a := 45) rfl) (by rfl) (by first | decide | exact Nat.ble_eq_true_of_le (by omega)) (c_X12_round gT.1 (by omega)) (st' := [_]) rfl ?_
      refine je_ps jb_X12_isInverse 4 (pc' := 40) (ls' := [_, _, _, _, _]) (st' := [_, _, _]) rfl ?_
      refine je_cvP' jb_X12_isInverse rfl (pc' := 43) rfl (jh_at (a := 45) rfl) (by rfl) (by first | decide | exact Nat.ble_eq_true_of_le (by omega)) (k_gat gh (by unfold fC; omega)) (st' := [_]) rfl ?_
      rw [show fLo s + (v : Int) - fLo s = (v : Int) by omega]
      refine je_ifle jb_X12_isInverse rfl (t := 57) rfl (pc' := 46) rfl (by first | omega | exact (hM _ _).1 | exact (hM _ _).2) (by first | omega | exact (hM _ _).1 | exact (hM _ _).2) (fun c43 => ?_) (fun c43 => ?_)
      · refine je_ps jb_X12_isInverse 3 (pc' := 60) (ls' := [_, _, _, _, _]) (st' := [_, _, _]) rfl ?_
        refine je_cvP' jb_X12_isInverse rfl (pc' := 63) rfl (jh_at (a := 45) rfl) (by rfl) (by first | decide | exact Nat.ble_eq_true_of_le (by omega)) (k_gat gh (by unfold fC; omega)) (st' := [_]) rfl ?_
        rw [show fLo s + (v : Int) - fLo s = (v : Int) by omega]
        refine je_ifle jb_X12_isInverse rfl (t := 80) rfl (pc' := 66) rfl (by first | omega | exact (hM _ _).1 | exact (hM _ _).2) (by first | omega | exact (hM _ _).1 | exact (hM _ _).2) (fun c63 => ?_) (fun c63 => ?_)
        · refine je_iinc jb_X12_isInverse rfl (pc' := 83) rfl rfl (ls' := [_, _, _, _, _]) rfl ?_
          refine je_ps jb_X12_isInverse 1 (pc' := 10) (ls' := [_, _, _, _, _]) (st' := []) rfl ?_
          first | (exfalso; omega) | refine kv _ _ ⟨_, by rw [show fLo s + ((v + 1 : Nat) : Int) = fLo s + (v : Int) + 1 by omega], jh_eq ?_, fun p h0 h3 h4 => ?_⟩
          all_goals first | (rw [fInvL_no gs (by rw [fAt_in (by omega)]; omega)]; done) | (rw [gW_W]; show _ = gW m to (fTu s n k (fInvL s n k L2 e2 v) (fRe s n (fLo s + (v : Int)) (-e2)) (-(fAt L2 (v : Int)))) 0; rw [fTu_at (show fC s n (fRe s n (fLo s + (v : Int)) (-e2)) from fHas_t c52), fInvL_free gs v v (by omega) (by omega) (fHas_t c52), fAt_in (by omega), Int.zero_add]; rfl) | (by_cases h5 : p = v <;> first | (subst h5; exact c52) | (subst h5; exfalso; omega) | exact fv p h0 (by omega) h4)
        · refine je_ps jb_X12_isInverse 6 (pc' := 73) (ls' := [_, _, _, _, _]) (st' := [_, _, _, _, _, _]) rfl ?_
          refine je_cvP' jb_X12_isInverse rfl (pc' := 76) rfl (jh_at (a := 45) rfl) (by rfl) (by first | decide | exact Nat.ble_eq_true_of_le (by omega)) (k_gat gh (by unfold fC; omega)) (st' := [_, _, _, _]) rfl ?_
          rw [show fLo s + (v : Int) - fLo s = (v : Int) by omega]
          refine je_ineg jb_X12_isInverse rfl (pc' := 77) rfl ?_
          refine je_cvP' jb_X12_isInverse rfl (pc' := 80) rfl (jh_at (a := 45) rfl) (by rfl) (by first | decide | exact Nat.ble_eq_true_of_le (by omega)) (k_gshows gT (by first | exact fHas_t c52 | (exfalso; omega)) (by omega)) (st' := []) rfl ?_
          refine je_iinc jb_X12_isInverse rfl (pc' := 83) rfl rfl (ls' := [_, _, _, _, _]) rfl ?_
          refine je_ps jb_X12_isInverse 1 (pc' := 10) (ls' := [_, _, _, _, _]) (st' := []) rfl ?_
          first | (exfalso; omega) | refine kv _ _ ⟨_, by rw [show fLo s + ((v + 1 : Nat) : Int) = fLo s + (v : Int) + 1 by omega], jh_eq ?_, fun p h0 h3 h4 => ?_⟩
          all_goals first | (rw [fInvL_no gs (by rw [fAt_in (by omega)]; omega)]; done) | (rw [gW_W]; show _ = gW m to (fTu s n k (fInvL s n k L2 e2 v) (fRe s n (fLo s + (v : Int)) (-e2)) (-(fAt L2 (v : Int)))) 0; rw [fTu_at (show fC s n (fRe s n (fLo s + (v : Int)) (-e2)) from fHas_t c52), fInvL_free gs v v (by omega) (by omega) (fHas_t c52), fAt_in (by omega), Int.zero_add]; rfl) | (by_cases h5 : p = v <;> first | (subst h5; exact c52) | (subst h5; exfalso; omega) | exact fv p h0 (by omega) h4)
      · refine je_ps jb_X12_isInverse 2 (pc' := 49) (ls' := [_, _, _, _, _]) (st' := [_, _]) rfl ?_
        refine je_cvP' jb_X12_isInverse rfl (pc' := 52) rfl (jh_at (a := 45) rfl) (by rfl) (by first | decide | exact Nat.ble_eq_true_of_le (by omega)) (c_X12_isCorner gT.1 (by omega)) (st' := [_]) rfl ?_
        refine je_ifneb jb_X12_isInverse rfl (t := 57) rfl (pc' := 55) rfl (fun c52 => ?_) (fun c52 => ?_)
        · refine je_ps jb_X12_isInverse 3 (pc' := 60) (ls' := [_, _, _, _, _]) (st' := [_, _, _]) rfl ?_
          refine je_cvP' jb_X12_isInverse rfl (pc' := 63) rfl (jh_at (a := 45) rfl) (by rfl) (by first | decide | exact Nat.ble_eq_true_of_le (by omega)) (k_gat gh (by unfold fC; omega)) (st' := [_]) rfl ?_
          rw [show fLo s + (v : Int) - fLo s = (v : Int) by omega]
          refine je_ifle jb_X12_isInverse rfl (t := 80) rfl (pc' := 66) rfl (by first | omega | exact (hM _ _).1 | exact (hM _ _).2) (by first | omega | exact (hM _ _).1 | exact (hM _ _).2) (fun c63 => ?_) (fun c63 => ?_)
          · refine je_iinc jb_X12_isInverse rfl (pc' := 83) rfl rfl (ls' := [_, _, _, _, _]) rfl ?_
            refine je_ps jb_X12_isInverse 1 (pc' := 10) (ls' := [_, _, _, _, _]) (st' := []) rfl ?_
            first | (exfalso; omega) | refine kv _ _ ⟨_, by rw [show fLo s + ((v + 1 : Nat) : Int) = fLo s + (v : Int) + 1 by omega], jh_eq ?_, fun p h0 h3 h4 => ?_⟩
            all_goals first | (rw [fInvL_no gs (by rw [fAt_in (by omega)]; omega)]; done) | (rw [gW_W]; show _ = gW m to (fTu s n k (fInvL s n k L2 e2 v) (fRe s n (fLo s + (v : Int)) (-e2)) (-(fAt L2 (v : Int)))) 0; rw [fTu_at (show fC s n (fRe s n (fLo s + (v : Int)) (-e2)) from fHas_t c52), fInvL_free gs v v (by omega) (by omega) (fHas_t c52), fAt_in (by omega), Int.zero_add]; rfl) | (by_cases h5 : p = v <;> first | (subst h5; exact c52) | (subst h5; exfalso; omega) | exact fv p h0 (by omega) h4)
          · refine je_ps jb_X12_isInverse 6 (pc' := 73) (ls' := [_, _, _, _, _]) (st' := [_, _, _, _, _, _]) rfl ?_
            refine je_cvP' jb_X12_isInverse rfl (pc' := 76) rfl (jh_at (a := 45) rfl) (by rfl) (by first | decide | exact Nat.ble_eq_true_of_le (by omega)) (k_gat gh (by unfold fC; omega)) (st' := [_, _, _, _]) rfl ?_
            rw [show fLo s + (v : Int) - fLo s = (v : Int) by omega]
            refine je_ineg jb_X12_isInverse rfl (pc' := 77) rfl ?_
            refine je_cvP' jb_X12_isInverse rfl (pc' := 80) rfl (jh_at (a := 45) rfl) (by rfl) (by first | decide | exact Nat.ble_eq_true_of_le (by omega)) (k_gshows gT (by first | exact fHas_t c52 | (exfalso; omega)) (by omega)) (st' := []) rfl ?_
            refine je_iinc jb_X12_isInverse rfl (pc' := 83) rfl rfl (ls' := [_, _, _, _, _]) rfl ?_
            refine je_ps jb_X12_isInverse 1 (pc' := 10) (ls' := [_, _, _, _, _]) (st' := []) rfl ?_
            first | (exfalso; omega) | refine kv _ _ ⟨_, by rw [show fLo s + ((v + 1 : Nat) : Int) = fLo s + (v : Int) + 1 by omega], jh_eq ?_, fun p h0 h3 h4 => ?_⟩
            all_goals first | (rw [fInvL_no gs (by rw [fAt_in (by omega)]; omega)]; done) | (rw [gW_W]; show _ = gW m to (fTu s n k (fInvL s n k L2 e2 v) (fRe s n (fLo s + (v : Int)) (-e2)) (-(fAt L2 (v : Int)))) 0; rw [fTu_at (show fC s n (fRe s n (fLo s + (v : Int)) (-e2)) from fHas_t c52), fInvL_free gs v v (by omega) (by omega) (fHas_t c52), fAt_in (by omega), Int.zero_add]; rfl) | (by_cases h5 : p = v <;> first | (subst h5; exact c52) | (subst h5; exfalso; omega) | exact fv p h0 (by omega) h4)
        · refine je_ps jb_X12_isInverse 1 (pc' := 56) (ls' := [_, _, _, _, _]) (st' := [_]) rfl ?_
          have hf := fFit_f (show ¬ fFitP s n L2 (-e2) by intro hq; have := hq v (by omega) (by omega) (by omega); rw [fRe_Rd, c52] at this; cases this)
          rw [hf]
          exact je_ret jb_X12_isInverse rfl (by rfl) ⟨_, _, rfl, rfl, fun h => by cases h⟩
  · obtain ⟨x, rfl, rfl, fv⟩ := gv
    have gok := fInvL_ok (e2 := e2) (L2 := L2) gs n.toNat
    have gT := gWk.w (m := m) g2.1 ht gok (fC_0 gs)
    have gh := gWk.o g2 h1 (fInvL s n k L2 e2 n.toNat) 0
    obtain ⟨q1, q2, q3, q4⟩ := gT.1.1
    refine je_ps jb_X12_isInverse 2 (pc' := 12) (ls' := [_, _, _, _, _]) (st' := [_, _]) rfl ?_
    refine je_get jb_X12_isInverse rfl (pc' := 15) rfl (jh_at (a := 45) rfl) (by rfl) (by rfl) ?_
    refine je_ps jb_X12_isInverse 1 (pc' := 16) (ls' := [_, _, _, _, _]) (st' := [_, _, _]) rfl ?_
    refine je_get jb_X12_isInverse rfl (pc' := 19) rfl (jh_at (a := 45) rfl) (by rfl) (by rfl) ?_
    refine je_iadd jb_X12_isInverse rfl (pc' := 20) rfl ?_
    refine je_icmpge jb_X12_isInverse rfl (t := 86) rfl (pc' := 23) rfl (by first | omega | exact (hM _ _).1 | exact (hM _ _).2) (by first | omega | exact (hM _ _).1 | exact (hM _ _).2) (by first | omega | exact (hM _ _).1 | exact (hM _ _).2) (by first | omega | exact (hM _ _).1 | exact (hM _ _).2) (fun c20 => ?_) (fun c20 => ?_)
    · refine je_ps jb_X12_isInverse 1 (pc' := 87) (ls' := [_, _, _, _, _]) (st' := [_]) rfl ?_
      refine je_get jb_X12_isInverse rfl (pc' := 90) rfl (jh_at (a := 45) rfl) (by rfl) (by rfl) ?_
      refine je_ps jb_X12_isInverse 3 (pc' := 93) (ls' := [_, _, _, _, _]) (st' := [_, _, _, _]) rfl ?_
      refine je_get jb_X12_isInverse rfl (pc' := 96) rfl (jh_at (a := 45) rfl) (by rfl) (by rfl) ?_
      refine je_ps jb_X12_isInverse 1 (pc' := 97) (ls' := [_, _, _, _, _]) (st' := [_, _, _, _, _]) rfl ?_
      refine je_iald jb_X12_isInverse rfl (pc' := 98) rfl (n := 9) (f := _) (jh_at (a := 48) rfl) (by first | omega | exact (hM _ _).1 | exact (hM _ _).2) (by first | omega | exact (hM _ _).1 | exact (hM _ _).2) (by first | omega | exact (hM _ _).1 | exact (hM _ _).2) ?_
      rw [gh.2.2.2.1]
      refine je_ineg jb_X12_isInverse rfl (pc' := 99) rfl ?_
      refine je_cvP' jb_X12_isInverse rfl (pc' := 102) rfl (jh_at (a := 45) rfl) (by rfl) (by first | decide | exact Nat.ble_eq_true_of_le (by omega)) (c_X12_round gT.1 (by omega)) (st' := [_, _, _]) rfl ?_
      refine je_iastI jb_X12_isInverse rfl (pc' := 103) rfl (n := 9) (a := 48) rfl (fun _ => rfl) (by first | omega | exact (hM _ _).1 | exact (hM _ _).2) (by first | omega | exact (hM _ _).1 | exact (hM _ _).2) (by first | omega | exact (hM _ _).1 | exact (hM _ _).2) ?_
      rw [gW_ee]
      refine je_ps jb_X12_isInverse 1 (pc' := 104) (ls' := [_, _, _, _, _]) (st' := [_]) rfl ?_
      have hf := fFit_iff.mpr (fFit_n gs hL2 fv)
      rw [hf]
      exact je_ret jb_X12_isInverse rfl (by rfl) ⟨_, _, rfl, rfl, fun _ => by rw [fInvL_25 gs hL2, fInv_e]; exact ⟨rfl, rfl⟩⟩
    · first | (exfalso; omega) | (cases c20; done) | (exfalso; simp_all; done)
theorem k_gisPower {w s n k e2 : Int} {L2 : Int → Int} (g2 : gWk m w s n k L2 e2) (hw : w < 6) {K : Nat} (hK : K ≤ 1000) : jq sc 5 jm_X12_isPower [.ref 45, .int (jI w), .int (jI K)] (jh m r T) (fun v σ => ∃ m', v = some (.int (jI (jb (fPow s n k L2 e2 K).1))) ∧ σ = jh m' r T ∧ gX m m' ∧ ((fPow s n k L2 e2 K).1 = true → gR m' 6 (fPow s n k L2 e2 K).2.1 (fPow s n k L2 e2 K).2.2)) := by
  have gs := g2.1.2
  have hw2 := g2.2.1
  refine je_in jb_X12_isPower rfl (ls := [_, _, _, _, _]) rfl ?_
  refine je_ps jb_X12_isPower 2 (pc' := 3) (ls' := [_, _, _, _, _]) (st' := [_, _]) rfl ?_
  refine je_cvP' jb_X12_isPower rfl (pc' := 6) rfl (jh_at (a := 45) rfl) (by rfl) (by first | decide | exact Nat.ble_eq_true_of_le (by omega)) (k_gbares (by omega)) (st' := []) rfl ?_
  refine je_ps jb_X12_isPower 4 (pc' := 11) (ls' := [_, _, _, _, _]) (st' := []) rfl ?_
  refine je_loop (fun (v : Nat) ls σ' => ∃ m1, ls = [.ref 45, .int (jI w), .int (jI K), .int (jI (jb (fPow s n k L2 e2 v).1)), .int (jI v)] ∧ σ' = jh m1 r T ∧ gX m m1 ∧ ((fPow s n k L2 e2 v).1 = true → gR m1 6 (fPow s n k L2 e2 v).2.1 (fPow s n k L2 e2 v).2.2)) (K) ⟨_, rfl, rfl, (gX.rfl' m).w (by omega) _ _, fun _ => gR.w (by omega)⟩ (fun v hv ls σ' gv kv => ?_) (fun ls σ' gv => ?_)
  · obtain ⟨m1, rfl, rfl, ⟨fx, fr⟩⟩ := gv
    have gq := fPow_ok (L2 := L2) (e2 := e2) gs v
    have gg := fx.k hw g2
    refine je_ps jb_X12_isPower 2 (pc' := 14) (ls' := [_, _, _, _, _]) (st' := [_, _]) rfl ?_
    refine je_icmpge jb_X12_isPower rfl (t := 45) rfl (pc' := 17) rfl (by first | omega | exact (hM _ _).1 | exact (hM _ _).2) (by first | omega | exact (hM _ _).1 | exact (hM _ _).2) (by first | omega | exact (hM _ _).1 | exact (hM _ _).2) (by first | omega | exact (hM _ _).1 | exact (hM _ _).2) (fun c14 => ?_) (fun c14 => ?_)
    · first | (exfalso; omega) | (cases c14; done) | (exfalso; simp_all; done)
    · refine je_ps jb_X12_isPower 1 (pc' := 18) (ls' := [_, _, _, _, _]) (st' := [_]) rfl ?_
      refine je_ifeqb jb_X12_isPower rfl (t := 45) rfl (pc' := 21) rfl (fun c18 => ?_) (fun c18 => ?_)
      · refine je_ps jb_X12_isPower 1 (pc' := 46) (ls' := [_, _, _, _, _]) (st' := [_]) rfl ?_
        first | exact je_retb jb_X12_isPower rfl ⟨_, rfl, rfl, fx, fr⟩ | (have gw := fPow_stay c18 K (by omega); rw [← gw] at c18 fr ⊢; exact je_retb jb_X12_isPower rfl ⟨_, rfl, rfl, fx, fr⟩)
      · have g6 := (fr c18).k gg.1 gq.1 gq.2
        refine je_ps jb_X12_isPower 4 (pc' := 27) (ls' := [_, _, _, _, _]) (st' := [_, _, _, _]) rfl ?_
        refine je_cv jb_X12_isPower rfl (pc' := 30) rfl (jh_at (a := 45) rfl) (by rfl) (by first | decide | exact Nat.ble_eq_true_of_le (by omega)) (k_gisTimes g6 gg (by omega) (by omega) (by omega)) ?_
        rintro _ _ ⟨L1, e1, rfl, rfl, h1⟩
        show je _ _ _ _ _ [_] _ _
        refine je_ps jb_X12_isPower 4 (pc' := 36) (ls' := [_, _, _, _, _]) (st' := [_, _, _]) rfl ?_
        refine je_cvP' jb_X12_isPower rfl (pc' := 39) rfl (jh_at (a := 45) rfl) (by rfl) (by first | decide | exact Nat.ble_eq_true_of_le (by omega)) (k_glikens (gR.w (by omega)) (by omega) (by omega)) (st' := []) rfl ?_
        refine je_iinc jb_X12_isPower rfl (pc' := 42) rfl rfl (ls' := [_, _, _, _, _]) rfl ?_
        refine je_ps jb_X12_isPower 1 (pc' := 11) (ls' := [_, _, _, _, _]) (st' := []) rfl ?_
        have ge : fPow s n k L2 e2 (v + 1) = fMul s n k (fPow s n k L2 e2 v).2.1 (fPow s n k L2 e2 v).2.2 L2 e2 := if_pos c18
        refine kv _ _ ⟨_, by rw [ge]; rfl, rfl, (fx.w (by omega) _ _).w (by omega) _ _, fun h => ?_⟩
        rw [ge] at h ⊢
        have h3 := h1 h
        rw [h3.1, h3.2]
        exact gR.w (by omega)
  · obtain ⟨m1, rfl, rfl, ⟨fx, fr⟩⟩ := gv
    refine je_ps jb_X12_isPower 2 (pc' := 14) (ls' := [_, _, _, _, _]) (st' := [_, _]) rfl ?_
    refine je_icmpge jb_X12_isPower rfl (t := 45) rfl (pc' := 17) rfl (by first | omega | exact (hM _ _).1 | exact (hM _ _).2) (by first | omega | exact (hM _ _).1 | exact (hM _ _).2) (by first | omega | exact (hM _ _).1 | exact (hM _ _).2) (by first | omega | exact (hM _ _).1 | exact (hM _ _).2) (fun c14 => ?_) (fun c14 => ?_)
    · refine je_ps jb_X12_isPower 1 (pc' := 46) (ls' := [_, _, _, _, _]) (st' := [_]) rfl ?_
      first | exact je_retb jb_X12_isPower rfl ⟨_, rfl, rfl, fx, fr⟩ | (have gw := fPow_stay c18 K (by omega); rw [← gw] at c18 fr ⊢; exact je_retb jb_X12_isPower rfl ⟨_, rfl, rfl, fx, fr⟩)
    · first | (exfalso; omega) | (cases c14; done) | (exfalso; simp_all; done)
end C37
