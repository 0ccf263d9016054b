/-! SCENES COPIED, whole -/
section C33
variable {sc : Nat × (Nat → Int32)} {m : Nat → Int → Int} {r : Nat → Nat → Value} {T : jx_H} {σ : jx_H}
def cpH_n (r : Nat → Nat → Value) (t : Nat → Nat) : Nat → Nat → Nat → Value
  | 0 => r
  | v + 1 => jHr_n (cpH_n r t v) v (.ref (t v))
theorem cpH_n_G {t : Nat → Nat} : ∀ v, cpH_n r t v 22 = r 22
  | 0 => rfl
  | v + 1 => by
    have q := cpH_n_G (t := t) v
    show jHr_n (cpH_n r t v) v (.ref (t v)) 22 = r 22
    rw [← q]
    rfl
def cpM_n (m : Nat → Int → Int) (s n k : Int) (L : Nat → Int → Int) (e : Nat → Int) (c v : Nat) : Nat → Int → Int := jU (cpA_n m s n k L e c) 1 (ju (cpA_n m s n k L e c 1) 5 v)
theorem sccopy_n {s n k : Int} {c hc : Nat} {L : Nat → Int → Int} {e : Nat → Int} {t u tag : Nat → Nat} {vs : Nat → List Value} (g0 : m 20 0 = s ∧ m 20 1 = n ∧ m 20 2 = k) (hC : m 19 2 = c) (c6 : c ≤ 6) (gw : ∀ i, i < c → jWk m (6 + i) s n k (L i) (e i)) (gz : ∀ i, i < c → ∀ p : Int, ¬ (0 ≤ p ∧ p < 25) → L i p = 0) (zd : ∀ i, i < 6 → jZ m (0 + i)) (hH : m 19 5 = hc) (h4 : hc ≤ 4) (gt : ∀ i, i < hc → r 22 i = .ref (t i) ∧ t i = 62 + u i ∧ T[u i]? = some (tag i, vs i) ∧ jHt (tag i) = true) :
    jq sc 3 jm_X4_copyFrom [.ref 1, .ref 19] (jh m r T) (jP none (jh (cpM_n m s n k L e c hc) (cpH_n r t hc) T)) := by
  obtain ⟨g01, g02, g03⟩ := g0
  refine je_in jb_X4_copyFrom rfl (ls := [_, _, _, _, _]) rfl ?_
  refine je_ps jb_X4_copyFrom 1 (pc' := 1) (ls' := [_, _, _, _, _]) (st' := [_]) rfl ?_
  refine je_get jb_X4_copyFrom rfl (pc' := 4) rfl (jh_at (a := 1) rfl) (by rfl) (by rfl) ?_
  refine je_ps jb_X4_copyFrom 1 (pc' := 5) (ls' := [_, _, _, _, _]) (st' := [_, _]) rfl ?_
  refine je_get jb_X4_copyFrom rfl (pc' := 8) rfl (jh_at (a := 19) rfl) (by rfl) (by rfl) ?_
  refine je_cvP' jb_X4_copyFrom rfl (pc' := 11) rfl (jh_at (a := 2) rfl) (by rfl) (by first | decide | exact Nat.ble_eq_true_of_le (by omega)) stcopy_2 (st' := []) rfl ?_
  rw [g01, g02, g03]
  refine je_ps jb_X4_copyFrom 2 (pc' := 13) (ls' := [_, _, _, _, _]) (st' := [_, _]) rfl ?_
  refine je_putI jb_X4_copyFrom rfl (pc' := 16) rfl (j := 2) (a := 1) rfl (by rfl) (by rfl) (by rfl) (by rfl) ?_
  refine je_ps jb_X4_copyFrom 2 (pc' := 18) (ls' := [_, _, _, _, _]) (st' := []) rfl ?_
  refine je_loop (fun (v : Nat) ls σ' => ∃ x y, ls = [.ref 1, .ref 19, .int (jI v), x, y] ∧ σ' = jh (cpA_n m s n k L e v) r T) (c) ⟨_, _, rfl, rfl⟩ (fun v hv ls σ' gv kv => ?_) (fun ls σ' gv => ?_)
  · obtain ⟨x, y, rfl, rfl⟩ := gv
    have hP : cpA_n m s n k L e v 19 2 = c := by rw [cpA_n_P]; exact hC
    have hS : cpA_n m s n k L e v 1 2 = v := by rw [cpA_n_S, ju_same]
    have hiv : 0 + v < 13 := by omega
    have hjv : 6 + v < 13 := by omega
    have gv := cpA_n_w (s := s) (n := n) (k := k) (L := L) (e := e) (v := v) (gw v hv) (by omega) (by omega)
    have zv := cpA_n_z (s := s) (n := n) (k := k) (L := L) (e := e) (zd v (by omega)) (by omega)
    refine je_ps jb_X4_copyFrom 2 (pc' := 20) (ls' := [_, _, _, _, _]) (st' := [_, _]) rfl ?_
    refine je_get jb_X4_copyFrom rfl (pc' := 23) rfl (jh_at (a := 19) rfl) (by rfl) (by rfl) ?_
    refine je_icmpge jb_X4_copyFrom rfl (t := 64) rfl (pc' := 26) rfl (by first | omega | exact (hM _ _).1 | exact (hM _ _).2) (by first | omega | exact (hM _ _).1 | exact (hM _ _).2) (by first | omega | exact (hM _ _).1 | exact (hM _ _).2) (by first | omega | exact (hM _ _).1 | exact (hM _ _).2) (fun c23 => ?_) (fun c23 => ?_)
    · first | (exfalso; omega) | (cases c23; done) | (exfalso; simp_all; done)
    · refine je_ps jb_X4_copyFrom 1 (pc' := 27) (ls' := [_, _, _, _, _]) (st' := [_]) rfl ?_
      refine je_cvP' jb_X4_copyFrom rfl (pc' := 30) rfl (jh_at (a := 1) rfl) (by rfl) (by first | decide | exact Nat.ble_eq_true_of_le (by omega)) (freeWalk_n_t hS (by omega)) (st' := [_]) rfl ?_
      refine je_ps jb_X4_copyFrom 3 (pc' := 33) (ls' := [_, _, _, _, _]) (st' := [_, _]) rfl ?_
      refine je_cvP' jb_X4_copyFrom rfl (pc' := 36) rfl (jh_at (a := 19) rfl) (by rfl) (by first | decide | exact Nat.ble_eq_true_of_le (by omega)) (walkAt_t_t hP (by omega) (by omega)) (st' := [_]) rfl ?_
      refine je_ps jb_X4_copyFrom 2 (pc' := 39) (ls' := [_, _, _, _, _]) (st' := [_]) rfl ?_
      refine je_ifnullR jb_X4_copyFrom rfl (t := 58) rfl (pc' := 42) rfl ?_
      refine je_ps jb_X4_copyFrom 1 (pc' := 44) (ls' := [_, _, _, _, _]) (st' := [_]) rfl ?_
      refine je_ifnullR jb_X4_copyFrom rfl (t := 58) rfl (pc' := 47) rfl ?_
      refine je_ps jb_X4_copyFrom 2 (pc' := 50) (ls' := [_, _, _, _, _]) (st' := [_, _]) rfl ?_
      refine je_cvP' jb_X4_copyFrom rfl (pc' := 53) rfl (jh_walk hiv) (by rfl) (by first | decide | exact Nat.ble_eq_true_of_le (by omega)) (k_copyFrom hiv zv hjv gv (by omega) (gz v hv)) (st' := []) rfl ?_
      refine je_ps jb_X4_copyFrom 1 (pc' := 54) (ls' := [_, _, _, _, _]) (st' := [_]) rfl ?_
      refine je_cvP' jb_X4_copyFrom rfl (pc' := 57) rfl (jh_at (a := 1) rfl) (by rfl) (by first | decide | exact Nat.ble_eq_true_of_le (by omega)) (keepFreeWalk_n (c := (v : Int)) (by rw [jW_ne (by have := jwS (0 + v); omega) (by have := jwS (0 + v); omega)]; exact hS)) (st' := [_]) rfl ?_
      refine je_ps jb_X4_copyFrom 1 (pc' := 58) (ls' := [_, _, _, _, _]) (st' := []) rfl ?_
      refine je_iinc jb_X4_copyFrom rfl (pc' := 61) rfl rfl (ls' := [_, _, _, _, _]) rfl ?_
      refine je_ps jb_X4_copyFrom 1 (pc' := 18) (ls' := [_, _, _, _, _]) (st' := []) rfl ?_
      exact kv _ _ ⟨_, _, rfl, jh_eq (cpA_n_s v (by omega))⟩
  · obtain ⟨x, y, rfl, rfl⟩ := gv
    have hP : cpA_n m s n k L e c 19 2 = c := by rw [cpA_n_P]; exact hC
    refine je_ps jb_X4_copyFrom 2 (pc' := 20) (ls' := [_, _, _, _, _]) (st' := [_, _]) rfl ?_
    refine je_get jb_X4_copyFrom rfl (pc' := 23) rfl (jh_at (a := 19) rfl) (by rfl) (by rfl) ?_
    refine je_icmpge jb_X4_copyFrom rfl (t := 64) rfl (pc' := 26) rfl (by first | omega | exact (hM _ _).1 | exact (hM _ _).2) (by first | omega | exact (hM _ _).1 | exact (hM _ _).2) (by first | omega | exact (hM _ _).1 | exact (hM _ _).2) (by first | omega | exact (hM _ _).1 | exact (hM _ _).2) (fun c23 => ?_) (fun c23 => ?_)
    · refine je_ps jb_X4_copyFrom 2 (pc' := 66) (ls' := [_, _, _, _, _]) (st' := [_, _]) rfl ?_
      refine je_putI jb_X4_copyFrom rfl (pc' := 69) rfl (j := 5) (a := 1) rfl (by rfl) (by rfl) (by rfl) (by rfl) ?_
      refine je_ps jb_X4_copyFrom 2 (pc' := 71) (ls' := [_, _, _, _, _]) (st' := []) rfl ?_
      refine je_loop (fun (w : Nat) ls σ' => ∃ x y, ls = [.ref 1, .ref 19, .int (jI w), x, y] ∧ σ' = jh (cpM_n m s n k L e c w) (cpH_n r t w) T) (hc) ⟨_, _, rfl, rfl⟩ (fun w hw ls σ' gw kw => ?_) (fun ls σ' gw => ?_)
      · obtain ⟨x, y, rfl, rfl⟩ := gw
        have hP4 : cpM_n m s n k L e c w 19 5 = hc := by unfold cpM_n; rw [jU_ne (by decide), cpA_n_P]; exact hH
        have hS4 : cpM_n m s n k L e c w 1 5 = w := by unfold cpM_n; rw [jU_same, ju_same]
        have hg := gt w hw
        have hr : cpH_n r t w 22 w = .ref (t w) := by rw [cpH_n_G]; exact hg.1
        have hT : (jh (cpM_n m s n k L e c w) (cpH_n r t w) T)[t w]? = some (tag w, vs w) := by rw [hg.2.1, jh_tail]; exact hg.2.2.1
        refine je_ps jb_X4_copyFrom 2 (pc' := 73) (ls' := [_, _, _, _, _]) (st' := [_, _]) rfl ?_
        refine je_get jb_X4_copyFrom rfl (pc' := 76) rfl (jh_at (a := 19) rfl) (by rfl) (by rfl) ?_
        refine je_icmpge jb_X4_copyFrom rfl (t := 95) rfl (pc' := 79) rfl (by first | omega | exact (hM _ _).1 | exact (hM _ _).2) (by first | omega | exact (hM _ _).1 | exact (hM _ _).2) (by first | omega | exact (hM _ _).1 | exact (hM _ _).2) (by first | omega | exact (hM _ _).1 | exact (hM _ _).2) (fun c76 => ?_) (fun c76 => ?_)
        · first | (exfalso; omega) | (cases c76; done) | (exfalso; simp_all; done)
        · refine je_ps jb_X4_copyFrom 3 (pc' := 82) (ls' := [_, _, _, _, _]) (st' := [_, _, _]) rfl ?_
          refine je_cvP' jb_X4_copyFrom rfl (pc' := 85) rfl (jh_at (a := 19) rfl) (by rfl) (by first | decide | exact Nat.ble_eq_true_of_le (by omega)) (helperAt_t_t (i := w) hP4 (by omega) (by omega) hr) (st' := [_, _]) rfl ?_
          refine je_cvP' jb_X4_copyFrom rfl (pc' := 88) rfl (jh_at (a := 1) rfl) (by rfl) (by first | decide | exact Nat.ble_eq_true_of_le (by omega)) (addHelper_n (c := w) hS4 (by omega) hT hg.2.2.2) (st' := [_]) rfl ?_
          refine je_ps jb_X4_copyFrom 1 (pc' := 89) (ls' := [_, _, _, _, _]) (st' := []) rfl ?_
          refine je_iinc jb_X4_copyFrom rfl (pc' := 92) rfl rfl (ls' := [_, _, _, _, _]) rfl ?_
          refine je_ps jb_X4_copyFrom 1 (pc' := 71) (ls' := [_, _, _, _, _]) (st' := []) rfl ?_
          exact kw _ _ ⟨_, _, rfl, by unfold cpM_n; rw [jU_same, ju_ju, jU_jU]; rfl⟩
      · obtain ⟨x, y, rfl, rfl⟩ := gw
        have hP4 : cpM_n m s n k L e c hc 19 5 = hc := by unfold cpM_n; rw [jU_ne (by decide), cpA_n_P]; exact hH
        refine je_ps jb_X4_copyFrom 2 (pc' := 73) (ls' := [_, _, _, _, _]) (st' := [_, _]) rfl ?_
        refine je_get jb_X4_copyFrom rfl (pc' := 76) rfl (jh_at (a := 19) rfl) (by rfl) (by rfl) ?_
        refine je_icmpge jb_X4_copyFrom rfl (t := 95) rfl (pc' := 79) rfl (by first | omega | exact (hM _ _).1 | exact (hM _ _).2) (by first | omega | exact (hM _ _).1 | exact (hM _ _).2) (by first | omega | exact (hM _ _).1 | exact (hM _ _).2) (by first | omega | exact (hM _ _).1 | exact (hM _ _).2) (fun c76 => ?_) (fun c76 => ?_)
        · exact je_ret jb_X4_copyFrom rfl (by rfl) ⟨by (first | rfl | (refine jv_t ?_; simp only [decide_eq_true_eq]; omega) | (refine jv_f ?_; simp only [decide_eq_false_iff_not]; omega) | (refine jv_I ?_; omega)), by (first | rfl | (refine jv_t ?_; simp only [decide_eq_true_eq]; omega) | (refine jv_f ?_; simp only [decide_eq_false_iff_not]; omega) | (refine jv_I ?_; omega))⟩
        · first | (exfalso; omega) | (cases c76; done) | (exfalso; simp_all; done)
    · first | (exfalso; omega) | (cases c23; done) | (exfalso; simp_all; done)
def cpH_t (r : Nat → Nat → Value) (t : Nat → Nat) : Nat → Nat → Nat → Value
  | 0 => r
  | v + 1 => jHr_t (cpH_t r t v) v (.ref (t v))
theorem cpH_t_G {t : Nat → Nat} : ∀ v, cpH_t r t v 4 = r 4
  | 0 => rfl
  | v + 1 => by
    have q := cpH_t_G (t := t) v
    show jHr_t (cpH_t r t v) v (.ref (t v)) 4 = r 4
    rw [← q]
    rfl
def cpM_t (m : Nat → Int → Int) (s n k : Int) (L : Nat → Int → Int) (e : Nat → Int) (c v : Nat) : Nat → Int → Int := jU (cpA_t m s n k L e c) 19 (ju (cpA_t m s n k L e c 19) 5 v)
theorem sccopy_t {s n k : Int} {c hc : Nat} {L : Nat → Int → Int} {e : Nat → Int} {t u tag : Nat → Nat} {vs : Nat → List Value} (g0 : m 2 0 = s ∧ m 2 1 = n ∧ m 2 2 = k) (hC : m 1 2 = c) (c6 : c ≤ 6) (gw : ∀ i, i < c → jWk m (0 + i) s n k (L i) (e i)) (gz : ∀ i, i < c → ∀ p : Int, ¬ (0 ≤ p ∧ p < 25) → L i p = 0) (zd : ∀ i, i < 6 → jZ m (6 + i)) (hH : m 1 5 = hc) (h4 : hc ≤ 4) (gt : ∀ i, i < hc → r 4 i = .ref (t i) ∧ t i = 62 + u i ∧ T[u i]? = some (tag i, vs i) ∧ jHt (tag i) = true) :
    jq sc 3 jm_X4_copyFrom [.ref 19, .ref 1] (jh m r T) (jP none (jh (cpM_t m s n k L e c hc) (cpH_t r t hc) T)) := by
  obtain ⟨g01, g02, g03⟩ := g0
  refine je_in jb_X4_copyFrom rfl (ls := [_, _, _, _, _]) rfl ?_
  refine je_ps jb_X4_copyFrom 1 (pc' := 1) (ls' := [_, _, _, _, _]) (st' := [_]) rfl ?_
  refine je_get jb_X4_copyFrom rfl (pc' := 4) rfl (jh_at (a := 19) rfl) (by rfl) (by rfl) ?_
  refine je_ps jb_X4_copyFrom 1 (pc' := 5) (ls' := [_, _, _, _, _]) (st' := [_, _]) rfl ?_
  refine je_get jb_X4_copyFrom rfl (pc' := 8) rfl (jh_at (a := 1) rfl) (by rfl) (by rfl) ?_
  refine je_cvP' jb_X4_copyFrom rfl (pc' := 11) rfl (jh_at (a := 20) rfl) (by rfl) (by first | decide | exact Nat.ble_eq_true_of_le (by omega)) stcopy_20 (st' := []) rfl ?_
  rw [g01, g02, g03]
  refine je_ps jb_X4_copyFrom 2 (pc' := 13) (ls' := [_, _, _, _, _]) (st' := [_, _]) rfl ?_
  refine je_putI jb_X4_copyFrom rfl (pc' := 16) rfl (j := 2) (a := 19) rfl (by rfl) (by rfl) (by rfl) (by rfl) ?_
  refine je_ps jb_X4_copyFrom 2 (pc' := 18) (ls' := [_, _, _, _, _]) (st' := []) rfl ?_
  refine je_loop (fun (v : Nat) ls σ' => ∃ x y, ls = [.ref 19, .ref 1, .int (jI v), x, y] ∧ σ' = jh (cpA_t m s n k L e v) r T) (c) ⟨_, _, rfl, rfl⟩ (fun v hv ls σ' gv kv => ?_) (fun ls σ' gv => ?_)
  · obtain ⟨x, y, rfl, rfl⟩ := gv
    have hP : cpA_t m s n k L e v 1 2 = c := by rw [cpA_t_P]; exact hC
    have hS : cpA_t m s n k L e v 19 2 = v := by rw [cpA_t_S, ju_same]
    have hiv : 6 + v < 13 := by omega
    have hjv : 0 + v < 13 := by omega
    have gv := cpA_t_w (s := s) (n := n) (k := k) (L := L) (e := e) (v := v) (gw v hv) (by omega) (by omega)
    have zv := cpA_t_z (s := s) (n := n) (k := k) (L := L) (e := e) (zd v (by omega)) (by omega)
    refine je_ps jb_X4_copyFrom 2 (pc' := 20) (ls' := [_, _, _, _, _]) (st' := [_, _]) rfl ?_
    refine je_get jb_X4_copyFrom rfl (pc' := 23) rfl (jh_at (a := 1) rfl) (by rfl) (by rfl) ?_
    refine je_icmpge jb_X4_copyFrom rfl (t := 64) rfl (pc' := 26) rfl (by first | omega | exact (hM _ _).1 | exact (hM _ _).2) (by first | omega | exact (hM _ _).1 | exact (hM _ _).2) (by first | omega | exact (hM _ _).1 | exact (hM _ _).2) (by first | omega | exact (hM _ _).1 | exact (hM _ _).2) (fun c23 => ?_) (fun c23 => ?_)
    · first | (exfalso; omega) | (cases c23; done) | (exfalso; simp_all; done)
    · refine je_ps jb_X4_copyFrom 1 (pc' := 27) (ls' := [_, _, _, _, _]) (st' := [_]) rfl ?_
      refine je_cvP' jb_X4_copyFrom rfl (pc' := 30) rfl (jh_at (a := 19) rfl) (by rfl) (by first | decide | exact Nat.ble_eq_true_of_le (by omega)) (freeWalk_t_t hS (by omega)) (st' := [_]) rfl ?_
      refine je_ps jb_X4_copyFrom 3 (pc' := 33) (ls' := [_, _, _, _, _]) (st' := [_, _]) rfl ?_
      refine je_cvP' jb_X4_copyFrom rfl (pc' := 36) rfl (jh_at (a := 1) rfl) (by rfl) (by first | decide | exact Nat.ble_eq_true_of_le (by omega)) (walkAt_n_t hP (by omega) (by omega)) (st' := [_]) rfl ?_
      refine je_ps jb_X4_copyFrom 2 (pc' := 39) (ls' := [_, _, _, _, _]) (st' := [_]) rfl ?_
      refine je_ifnullR jb_X4_copyFrom rfl (t := 58) rfl (pc' := 42) rfl ?_
      refine je_ps jb_X4_copyFrom 1 (pc' := 44) (ls' := [_, _, _, _, _]) (st' := [_]) rfl ?_
      refine je_ifnullR jb_X4_copyFrom rfl (t := 58) rfl (pc' := 47) rfl ?_
      refine je_ps jb_X4_copyFrom 2 (pc' := 50) (ls' := [_, _, _, _, _]) (st' := [_, _]) rfl ?_
      refine je_cvP' jb_X4_copyFrom rfl (pc' := 53) rfl (jh_walk hiv) (by rfl) (by first | decide | exact Nat.ble_eq_true_of_le (by omega)) (k_copyFrom hiv zv hjv gv (by omega) (gz v hv)) (st' := []) rfl ?_
      refine je_ps jb_X4_copyFrom 1 (pc' := 54) (ls' := [_, _, _, _, _]) (st' := [_]) rfl ?_
      refine je_cvP' jb_X4_copyFrom rfl (pc' := 57) rfl (jh_at (a := 19) rfl) (by rfl) (by first | decide | exact Nat.ble_eq_true_of_le (by omega)) (keepFreeWalk_t (c := (v : Int)) (by rw [jW_ne (by have := jwS (6 + v); omega) (by have := jwS (6 + v); omega)]; exact hS)) (st' := [_]) rfl ?_
      refine je_ps jb_X4_copyFrom 1 (pc' := 58) (ls' := [_, _, _, _, _]) (st' := []) rfl ?_
      refine je_iinc jb_X4_copyFrom rfl (pc' := 61) rfl rfl (ls' := [_, _, _, _, _]) rfl ?_
      refine je_ps jb_X4_copyFrom 1 (pc' := 18) (ls' := [_, _, _, _, _]) (st' := []) rfl ?_
      exact kv _ _ ⟨_, _, rfl, jh_eq (cpA_t_s v (by omega))⟩
  · obtain ⟨x, y, rfl, rfl⟩ := gv
    have hP : cpA_t m s n k L e c 1 2 = c := by rw [cpA_t_P]; exact hC
    refine je_ps jb_X4_copyFrom 2 (pc' := 20) (ls' := [_, _, _, _, _]) (st' := [_, _]) rfl ?_
    refine je_get jb_X4_copyFrom rfl (pc' := 23) rfl (jh_at (a := 1) rfl) (by rfl) (by rfl) ?_
    refine je_icmpge jb_X4_copyFrom rfl (t := 64) rfl (pc' := 26) rfl (by first | omega | exact (hM _ _).1 | exact (hM _ _).2) (by first | omega | exact (hM _ _).1 | exact (hM _ _).2) (by first | omega | exact (hM _ _).1 | exact (hM _ _).2) (by first | omega | exact (hM _ _).1 | exact (hM _ _).2) (fun c23 => ?_) (fun c23 => ?_)
    · refine je_ps jb_X4_copyFrom 2 (pc' := 66) (ls' := [_, _, _, _, _]) (st' := [_, _]) rfl ?_
      refine je_putI jb_X4_copyFrom rfl (pc' := 69) rfl (j := 5) (a := 19) rfl (by rfl) (by rfl) (by rfl) (by rfl) ?_
      refine je_ps jb_X4_copyFrom 2 (pc' := 71) (ls' := [_, _, _, _, _]) (st' := []) rfl ?_
      refine je_loop (fun (w : Nat) ls σ' => ∃ x y, ls = [.ref 19, .ref 1, .int (jI w), x, y] ∧ σ' = jh (cpM_t m s n k L e c w) (cpH_t r t w) T) (hc) ⟨_, _, rfl, rfl⟩ (fun w hw ls σ' gw kw => ?_) (fun ls σ' gw => ?_)
      · obtain ⟨x, y, rfl, rfl⟩ := gw
        have hP4 : cpM_t m s n k L e c w 1 5 = hc := by unfold cpM_t; rw [jU_ne (by decide), cpA_t_P]; exact hH
        have hS4 : cpM_t m s n k L e c w 19 5 = w := by unfold cpM_t; rw [jU_same, ju_same]
        have hg := gt w hw
        have hr : cpH_t r t w 4 w = .ref (t w) := by rw [cpH_t_G]; exact hg.1
        have hT : (jh (cpM_t m s n k L e c w) (cpH_t r t w) T)[t w]? = some (tag w, vs w) := by rw [hg.2.1, jh_tail]; exact hg.2.2.1
        refine je_ps jb_X4_copyFrom 2 (pc' := 73) (ls' := [_, _, _, _, _]) (st' := [_, _]) rfl ?_
        refine je_get jb_X4_copyFrom rfl (pc' := 76) rfl (jh_at (a := 1) rfl) (by rfl) (by rfl) ?_
        refine je_icmpge jb_X4_copyFrom rfl (t := 95) rfl (pc' := 79) rfl (by first | omega | exact (hM _ _).1 | exact (hM _ _).2) (by first | omega | exact (hM _ _).1 | exact (hM _ _).2) (by first | omega | exact (hM _ _).1 | exact (hM _ _).2) (by first | omega | exact (hM _ _).1 | exact (hM _ _).2) (fun c76 => ?_) (fun c76 => ?_)
        · first | (exfalso; omega) | (cases c76; done) | (exfalso; simp_all; done)
        · refine je_ps jb_X4_copyFrom 3 (pc' := 82) (ls' := [_, _, _, _, _]) (st' := [_, _, _]) rfl ?_
          refine je_cvP' jb_X4_copyFrom rfl (pc' := 85) rfl (jh_at (a := 1) rfl) (by rfl) (by first | decide | exact Nat.ble_eq_true_of_le (by omega)) (helperAt_n_t (i := w) hP4 (by omega) (by omega) hr) (st' := [_, _]) rfl ?_
          refine je_cvP' jb_X4_copyFrom rfl (pc' := 88) rfl (jh_at (a := 19) rfl) (by rfl) (by first | decide | exact Nat.ble_eq_true_of_le (by omega)) (addHelper_t (c := w) hS4 (by omega) hT hg.2.2.2) (st' := [_]) rfl ?_
          refine je_ps jb_X4_copyFrom 1 (pc' := 89) (ls' := [_, _, _, _, _]) (st' := []) rfl ?_
          refine je_iinc jb_X4_copyFrom rfl (pc' := 92) rfl rfl (ls' := [_, _, _, _, _]) rfl ?_
          refine je_ps jb_X4_copyFrom 1 (pc' := 71) (ls' := [_, _, _, _, _]) (st' := []) rfl ?_
          exact kw _ _ ⟨_, _, rfl, by unfold cpM_t; rw [jU_same, ju_ju, jU_jU]; rfl⟩
      · obtain ⟨x, y, rfl, rfl⟩ := gw
        have hP4 : cpM_t m s n k L e c hc 1 5 = hc := by unfold cpM_t; rw [jU_ne (by decide), cpA_t_P]; exact hH
        refine je_ps jb_X4_copyFrom 2 (pc' := 73) (ls' := [_, _, _, _, _]) (st' := [_, _]) rfl ?_
        refine je_get jb_X4_copyFrom rfl (pc' := 76) rfl (jh_at (a := 1) rfl) (by rfl) (by rfl) ?_
        refine je_icmpge jb_X4_copyFrom rfl (t := 95) rfl (pc' := 79) rfl (by first | omega | exact (hM _ _).1 | exact (hM _ _).2) (by first | omega | exact (hM _ _).1 | exact (hM _ _).2) (by first | omega | exact (hM _ _).1 | exact (hM _ _).2) (by first | omega | exact (hM _ _).1 | exact (hM _ _).2) (fun c76 => ?_) (fun c76 => ?_)
        · exact je_ret jb_X4_copyFrom rfl (by rfl) ⟨by (first | rfl | (refine jv_t ?_; simp only [decide_eq_true_eq]; omega) | (refine jv_f ?_; simp only [decide_eq_false_iff_not]; omega) | (refine jv_I ?_; omega)), by (first | rfl | (refine jv_t ?_; simp only [decide_eq_true_eq]; omega) | (refine jv_f ?_; simp only [decide_eq_false_iff_not]; omega) | (refine jv_I ?_; omega))⟩
        · first | (exfalso; omega) | (cases c76; done) | (exfalso; simp_all; done)
    · first | (exfalso; omega) | (cases c23; done) | (exfalso; simp_all; done)
end C33
