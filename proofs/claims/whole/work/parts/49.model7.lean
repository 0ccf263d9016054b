/-! THE OTHER SIDE: codes, the sphere -/
section C49
variable {sc : Nat × (Nat → Int32)} {d M pc pc' : Nat} {ls st : List Value} {Q : Option Value → jx_H → Prop} {lst : List (Nat × Instr × Nat)} {own mx : Nat} {isi : Bool} {rt : Option FieldType} {m : Nat → Int → Int} {r : Nat → Nat → Value} {T : jx_H} {σ : jx_H}
theorem jL_to {a : Int} (h1 : -9000000000000000000 ≤ a) (h2 : a ≤ 9000000000000000000) : (jL a).toInt = a := Int64.toInt_ofInt_of_le (by omega) (by omega)
theorem jAl_len (n : Nat) (f : Int → Int) : (jAl n f).2.length = n := by simp [jAl]
theorem jAl_get {n : Nat} {f : Int → Int} {i : Int} (h0 : 0 ≤ i) (h1 : i < n) : (jAl n f).2[i.toNat]? = some (.long (jL (f i))) := by
  have h2 : i.toNat < n := by omega
  have h3 : ((i.toNat : Nat) : Int) = i := by omega
  simp [jAl, h2, h3]
theorem jAl_set {n : Nat} {f : Int → Int} {i v : Int} (h0 : 0 ≤ i) (h1 : i < n) : (jAl n f).2.set i.toNat (.long (jL v)) = (jAl n (ju f i v)).2 := by
  apply List.ext_getElem?
  intro j
  rw [List.getElem?_set]
  by_cases hj : i.toNat = j
  · have h2 : j < n := by omega
    have h3 : (j : Int) = i := by omega
    rw [if_pos hj]
    simp [jAl, h2, ju, h3, hj]
  · rw [if_neg hj]
    by_cases h2 : j < n
    · have h3 : ¬ (j : Int) = i := by omega
      simp [jAl, h2, ju, h3]
    · simp [jAl, h2]
theorem je_lald (hB : jx_B M lst own isi rt mx) {len a n : Nat} {f : Int → Int} {i : Int} (hI : jx_lk lst pc = some (.laload, len)) (hp : pc + len = pc') (hc : σ[a]? = some (jAl n f)) (h0 : 0 ≤ i) (h1 : i < n) (h2 : i ≤ 2147483647) (k : je sc d M pc' ls (.long (jL (f i)) :: st) σ Q) : je sc d M pc ls (.int (jI i) :: .ref a :: st) σ Q := by
  refine je_mem hB hI hp (σ1 := σ) (st' := .long (jL (f i)) :: st) ?_ k
  have e1 : (jI i).toInt = i := jI_int (by omega) h2
  have e3 : (Nat.beq (jAl n f).1 101 && jx_ix (jI i) (jAl n f).2.length) = true := by
    rw [jAl_len, jx_ix_I h0 h1 h2]
    rfl
  simp only [jx_mem, hc, e3, cond_true, e1, jAl_get h0 h1]
theorem je_last (hB : jx_B M lst own isi rt mx) {len a n : Nat} {f : Int → Int} {i v : Int} (hI : jx_lk lst pc = some (.lastore, len)) (hp : pc + len = pc') (hc : σ[a]? = some (jAl n f)) (h0 : 0 ≤ i) (h1 : i < n) (h2 : i ≤ 2147483647) (k : je sc d M pc' ls st (σ.set a (jAl n (ju f i v))) Q) : je sc d M pc ls (.long (jL v) :: .int (jI i) :: .ref a :: st) σ Q := by
  refine je_mem hB hI hp (σ1 := σ.set a (jAl n (ju f i v))) (st' := st) ?_ k
  have e1 : (jI i).toInt = i := jI_int (by omega) h2
  have e3 : (Nat.beq (jAl n f).1 101 && jx_ix (jI i) (jAl n f).2.length) = true := by
    rw [jAl_len, jx_ix_I h0 h1 h2]
    rfl
  have e4 : ((jAl n f).1, (jAl n f).2.set i.toNat (.long (jL v))) = jAl n (ju f i v) := by
    rw [jAl_set h0 h1]
    rfl
  simp only [jx_mem, hc, e3, cond_true, e1, e4]
theorem je_lastI (hB : jx_B M lst own isi rt mx) {len a n : Nat} {i v : Int} (hI : jx_lk lst pc = some (.lastore, len)) (hp : pc + len = pc') (ha : Nat.blt a 62 = true) (hj : ∀ f : Int → Int, jc a f (r a) = jAl n f) (h0 : 0 ≤ i) (h1 : i < n) (h2 : i ≤ 2147483647) (k : je sc d M pc' ls st (jh (jU m a (ju (m a) i v)) r T) Q) : je sc d M pc ls (.long (jL v) :: .int (jI i) :: .ref a :: st) (jh m r T) Q := by
  refine je_last hB hI hp (n := n) (f := m a) (by rw [jh_at ha, hj]) h0 h1 h2 ?_
  rw [← hj, jh_set ha]
  exact k
def lC (a b : Int) : Int := if b < a then 1 else if a = b then 0 else -1
theorem lC_c (a b : Int) : (lC a b = 0 ↔ a = b) ∧ -1 ≤ lC a b ∧ lC a b ≤ 1 := by
  unfold lC
  split
  · omega
  · split <;> omega
theorem lg_lC {a b : Int} (h1 : -9000000000000000000 ≤ a) (h2 : a ≤ 9000000000000000000) (h3 : -9000000000000000000 ≤ b) (h4 : b ≤ 9000000000000000000) : lg_cmp (jL a) (jL b) = jI (lC a b) := by
  have e1 := jL_to h1 h2
  have e2 := jL_to h3 h4
  unfold lg_cmp lC
  by_cases c : b < a
  · rw [if_pos (show jL a > jL b from Int64.lt_iff_toInt_lt.mpr (by omega)), if_pos c]
    rfl
  · rw [if_neg (show ¬ jL a > jL b from fun h => c (by have := Int64.lt_iff_toInt_lt.mp h; omega)), if_neg c]
    by_cases c2 : a = b
    · subst c2
      rw [if_pos rfl, if_pos rfl]
      rfl
    · rw [if_neg (fun h => c2 (by rw [← e1, ← e2, h])), if_neg c2]
      rfl
theorem je_lcmp (hB : jx_B M lst own isi rt mx) {len : Nat} {a b : Int} (hI : jx_lk lst pc = some (.lcmp, len)) (hp : pc + 1 = pc') (h1 : -9000000000000000000 ≤ a) (h2 : a ≤ 9000000000000000000) (h3 : -9000000000000000000 ≤ b) (h4 : b ≤ 9000000000000000000) (k : je sc d M pc' ls (.int (jI (lC a b)) :: st) σ Q) : je sc d M pc ls (.long (jL b) :: .long (jL a) :: st) σ Q := by
  subst hp
  exact je_p1 hB hI (by simp only [jx_pure, lg_lC h1 h2 h3 h4]) k
theorem sh_fin : ∀ a : Nat, a < 1024 → ∀ j : Nat, j < 5 → jI (a : Int) >>> (jI (2 * (j : Int)) &&& 31) = jI ((a / 4 ^ j : Nat) : Int) := by decide +kernel
theorem and3_fin : ∀ a : Nat, a < 1024 → iAnd (a : Int) 3 = ((a % 4 : Nat) : Int) := by decide +kernel
theorem je_ishr4 (hB : jx_B M lst own isi rt mx) {len : Nat} {a j : Nat} (hI : jx_lk lst pc = some (.ishr, len)) (hp : pc + 1 = pc') (h1 : a < 1024) (h2 : j < 5) (k : je sc d M pc' ls (.int (jI ((a / 4 ^ j : Nat) : Int)) :: st) σ Q) : je sc d M pc ls (.int (jI (2 * (j : Int))) :: .int (jI (a : Int)) :: st) σ Q := by
  subst hp
  exact je_p1 hB hI (by simp only [jx_pure, sh_fin a h1 j h2]) k
/-- another memory of the other side: only what is tried or reckoned with is otherwise -/
def gY (m m' : Nat → Int → Int) : Prop := (∀ b : Nat, b ≠ 47 → b ≠ 48 → b ≠ 51 → b ≠ 52 → b ≠ 53 → b ≠ 54 → m' b = m b) ∧ (∀ w p : Int, w < 6 → 0 ≤ p → p < 25 → m' 47 (25 * w + p) = m 47 (25 * w + p)) ∧ ∀ w : Int, w < 6 → m' 48 w = m 48 w
theorem gY.rfl' (m : Nat → Int → Int) : gY m m := ⟨fun _ _ _ _ _ _ _ => rfl, fun _ _ _ _ _ => rfl, fun _ _ => rfl⟩
theorem gY.tr {m m1 m2 : Nat → Int → Int} (h : gY m m1) (h2 : gY m1 m2) : gY m m2 :=
  ⟨fun b q1 q2 q3 q4 q5 q6 => (h2.1 b q1 q2 q3 q4 q5 q6).trans (h.1 b q1 q2 q3 q4 q5 q6), fun w p q0 q1 q2 => (h2.2.1 w p q0 q1 q2).trans (h.2.1 w p q0 q1 q2), fun w q => (h2.2.2 w q).trans (h.2.2 w q)⟩
theorem gX.y {m m1 : Nat → Int → Int} (h : gX m m1) : gY m m1 := ⟨fun b q1 q2 _ _ _ _ => h.1 b q1 q2, h.2.1, h.2.2⟩
theorem gD.y {m m1 : Nat → Int → Int} (h : gD m m1) : gY m m1 :=
  ⟨fun b _ _ q3 q4 q5 _ => h b q3 q4 q5, fun w p _ _ _ => by rw [h 47 (by decide) (by decide) (by decide)], fun w _ => by rw [h 48 (by decide) (by decide) (by decide)]⟩
theorem gY.w {m m1 : Nat → Int → Int} (h : gY m m1) {w : Int} (hw : 6 ≤ w) (L : Int → Int) (e : Int) : gY m (gW m1 w L e) := h.tr ((gX.rfl' m1).w hw L e).y
theorem gY.c {m m1 : Nat → Int → Int} (h : gY m m1) (f : Int → Int) : gY m (jU m1 54 f) :=
  h.tr ⟨fun b _ _ _ _ _ q6 => jU_ne q6, fun w p _ _ _ => by rw [jU_ne (by decide)], fun w _ => by rw [jU_ne (by decide)]⟩
theorem gY.str {m m1 : Nat → Int → Int} (h : gY m m1) {s n k : Int} (g : gSt m s n k) : gSt m1 s n k := by
  unfold gSt at *
  rwa [h.1 45 (by decide) (by decide) (by decide) (by decide) (by decide) (by decide)]
theorem gY.k {m m1 : Nat → Int → Int} (h : gY m m1) {w s n k e : Int} {L : Int → Int} (hw : w < 6) (g : gWk m w s n k L e) : gWk m1 w s n k L e :=
  ⟨h.str g.1, g.2.1, fun p h0 h1 => (h.2.1 w p hw h0 h1).trans (g.2.2.1 p h0 h1), (h.2.2 w hw).trans g.2.2.2.1, g.2.2.2.2⟩
theorem fSh_at {s n c : Int} {L : Int → Int} (hc : fC s n c) (hn : n ≤ 25) : fSh s n L c = L (c - fLo s) := by
  have h : fHas s n c = true := decide_eq_true hc
  unfold fSh fPl
  rw [if_pos h, fAt_in (by unfold fC at hc; omega)]
theorem k_gcode_p {w s n k e : Int} {L : Int → Int} (g : gWk m w s n k L e) (hs : s=0) : jq sc 2 jm_X12_code [.ref 45, .int (jI w)] (jh m r T) (jP (some (.long (jL (gCode s n k L e)))) (jh m r T)) := by
  have gs := g.1.2
  unfold fS at gs
  have gl := fLo_c s
  have gc := fC_i g.1.2 g.2.2.2.2.2
  have hw := g.2.1
  have ge := g.2.2.2.1
  obtain ⟨q1, q2, q3, q4⟩ := g.1.1
  have hF : (if s = 0 then (-5 : Int) else 0) = (-5) := if_pos hs
  have hK : (if s = 0 then (11 : Int) else n) = 11 := if_pos hs
  refine je_in jb_X12_code rfl (ls := [_, _, _, _, _]) rfl ?_
  refine je_ps jb_X12_code 1 (pc' := 1) (ls' := [_, _, _, _, _]) (st' := [_]) rfl ?_
  refine je_get jb_X12_code rfl (pc' := 4) rfl (jh_at (a := 45) rfl) (by rfl) (by rfl) ?_
  refine je_ps jb_X12_code 1 (pc' := 5) (ls' := [_, _, _, _, _]) (st' := [_, _]) rfl ?_
  refine je_iald jb_X12_code rfl (pc' := 6) rfl (n := 9) (f := _) (jh_at (a := 48) rfl) (by first | omega | exact (hM _ _).1 | exact (hM _ _).2) (by first | omega | exact (hM _ _).1 | exact (hM _ _).2) (by first | omega | exact (hM _ _).1 | exact (hM _ _).2) ?_
  rw [ge]
  refine je_ps jb_X12_code 1 (pc' := 8) (ls' := [_, _, _, _, _]) (st' := [_, _]) rfl ?_
  refine je_iadd jb_X12_code rfl (pc' := 9) rfl ?_
  refine je_i2l jb_X12_code rfl (pc' := 10) rfl (by first | omega | exact (hM _ _).1 | exact (hM _ _).2) (by first | omega | exact (hM _ _).1 | exact (hM _ _).2) ?_
  refine je_ps jb_X12_code 2 (pc' := 12) (ls' := [_, _, _, _, _]) (st' := [_]) rfl ?_
  refine je_get jb_X12_code rfl (pc' := 15) rfl (jh_at (a := 45) rfl) (by rfl) (by rfl) ?_
  refine je_ifeq jb_X12_code rfl (t := 22) rfl (pc' := 18) rfl (by first | omega | exact (hM _ _).1 | exact (hM _ _).2) (by first | omega | exact (hM _ _).1 | exact (hM _ _).2) (fun c15 => ?_) (fun c15 => ?_)
  · refine je_ps jb_X12_code 2 (pc' := 26) (ls' := [_, _, _, _, _]) (st' := []) rfl ?_
    refine je_loop (fun (v : Nat) ls σ' => ls = [.ref 45, .int (jI w), .long (jL (gCd s n k L e v)), .retAddr 2, .int (jI ((-5) + (v : Int)))] ∧ σ' = jh m r T) (Int.toNat 11) ⟨by rw [show (-5) + ((0 : Nat) : Int) = (-5) by omega]; rfl, rfl⟩ (fun v hv ls σ' gv kv => ?_) (fun ls σ' gv => ?_)
    · obtain ⟨rfl, rfl⟩ := gv
      have gq := g.2.2.2.2.1.1 ((-5) + (v : Int) - fLo s)
      have gz : gCd s n k L e (v + 1) = gCd s n k L e v * k + L ((-5) + (v : Int) - fLo s) := by rw [← fSh_at (s := s) (n := n) (L := L) (by unfold fC; omega) (by omega), ← hF]; rfl
      refine je_ps jb_X12_code 2 (pc' := 29) (ls' := [_, _, _, _, _]) (st' := [_, _]) rfl ?_
      refine je_get jb_X12_code rfl (pc' := 32) rfl (jh_at (a := 45) rfl) (by rfl) (by rfl) ?_
      refine je_ifeq jb_X12_code rfl (t := 42) rfl (pc' := 35) rfl (by first | omega | exact (hM _ _).1 | exact (hM _ _).2) (by first | omega | exact (hM _ _).1 | exact (hM _ _).2) (fun c32 => ?_) (fun c32 => ?_)
      · refine je_ps jb_X12_code 1 (pc' := 44) (ls' := [_, _, _, _, _]) (st' := [_, _]) rfl ?_
        refine je_icmpge jb_X12_code rfl (t := 70) rfl (pc' := 47) rfl (by first | omega | exact (hM _ _).1 | exact (hM _ _).2) (by first | omega | exact (hM _ _).1 | exact (hM _ _).2) (by first | omega | exact (hM _ _).1 | exact (hM _ _).2) (by first | omega | exact (hM _ _).1 | exact (hM _ _).2) (fun c44 => ?_) (fun c44 => ?_)
        · first | (exfalso; omega) | (cases c44; done) | (exfalso; simp_all; done)
        · refine je_ps jb_X12_code 2 (pc' := 49) (ls' := [_, _, _, _, _]) (st' := [_, _]) rfl ?_
          refine je_get jb_X12_code rfl (pc' := 52) rfl (jh_at (a := 45) rfl) (by rfl) (by rfl) ?_
          refine je_i2l jb_X12_code rfl (pc' := 53) rfl (by first | omega | exact (hM _ _).1 | exact (hM _ _).2) (by first | omega | exact (hM _ _).1 | exact (hM _ _).2) ?_
          refine je_lmul jb_X12_code rfl (pc' := 54) rfl ?_
          refine je_ps jb_X12_code 3 (pc' := 58) (ls' := [_, _, _, _, _]) (st' := [_, _, _, _]) rfl ?_
          refine je_cvP' jb_X12_code rfl (pc' := 61) rfl (jh_at (a := 45) rfl) (by rfl) (by first | decide | exact Nat.ble_eq_true_of_le (by omega)) (k_gat g (by unfold fC; omega)) (st' := [_, _]) rfl ?_
          refine je_i2l jb_X12_code rfl (pc' := 62) rfl (by first | omega | exact (hM _ _).1 | exact (hM _ _).2) (by first | omega | exact (hM _ _).1 | exact (hM _ _).2) ?_
          refine je_ladd jb_X12_code rfl (pc' := 63) rfl ?_
          refine je_ps jb_X12_code 1 (pc' := 64) (ls' := [_, _, _, _, _]) (st' := []) rfl ?_
          refine je_iinc jb_X12_code rfl (pc' := 67) rfl rfl (ls' := [_, _, _, _, _]) rfl ?_
          refine je_ps jb_X12_code 1 (pc' := 26) (ls' := [_, _, _, _, _]) (st' := []) rfl ?_
          refine kv _ _ ⟨by rw [gz, q4, show (-5) + ((v + 1 : Nat) : Int) = (-5) + (v : Int) + 1 by omega], rfl⟩
      · first | (exfalso; omega) | (cases c32; done) | (exfalso; simp_all; done)
    · obtain ⟨rfl, rfl⟩ := gv
      refine je_ps jb_X12_code 2 (pc' := 29) (ls' := [_, _, _, _, _]) (st' := [_, _]) rfl ?_
      refine je_get jb_X12_code rfl (pc' := 32) rfl (jh_at (a := 45) rfl) (by rfl) (by rfl) ?_
      refine je_ifeq jb_X12_code rfl (t := 42) rfl (pc' := 35) rfl (by first | omega | exact (hM _ _).1 | exact (hM _ _).2) (by first | omega | exact (hM _ _).1 | exact (hM _ _).2) (fun c32 => ?_) (fun c32 => ?_)
      · refine je_ps jb_X12_code 1 (pc' := 44) (ls' := [_, _, _, _, _]) (st' := [_, _]) rfl ?_
        refine je_icmpge jb_X12_code rfl (t := 70) rfl (pc' := 47) rfl (by first | omega | exact (hM _ _).1 | exact (hM _ _).2) (by first | omega | exact (hM _ _).1 | exact (hM _ _).2) (by first | omega | exact (hM _ _).1 | exact (hM _ _).2) (by first | omega | exact (hM _ _).1 | exact (hM _ _).2) (fun c44 => ?_) (fun c44 => ?_)
        · refine je_ps jb_X12_code 1 (pc' := 71) (ls' := [_, _, _, _, _]) (st' := [_]) rfl ?_
          exact je_ret jb_X12_code rfl (by rfl) ⟨by unfold gCode; rw [hK], rfl⟩
        · first | (exfalso; omega) | (cases c44; done) | (exfalso; simp_all; done)
      · first | (exfalso; omega) | (cases c32; done) | (exfalso; simp_all; done)
  · first | (exfalso; omega) | (cases c15; done) | (exfalso; simp_all; done)
theorem k_gcode_q {w s n k e : Int} {L : Int → Int} (g : gWk m w s n k L e) (hs : ¬s=0) : jq sc 2 jm_X12_code [.ref 45, .int (jI w)] (jh m r T) (jP (some (.long (jL (gCode s n k L e)))) (jh m r T)) := by
  have gs := g.1.2
  unfold fS at gs
  have gl := fLo_c s
  have gc := fC_i g.1.2 g.2.2.2.2.2
  have hw := g.2.1
  have ge := g.2.2.2.1
  obtain ⟨q1, q2, q3, q4⟩ := g.1.1
  have hF : (if s = 0 then (-5 : Int) else 0) = 0 := if_neg hs
  have hK : (if s = 0 then (11 : Int) else n) = n := if_neg hs
  refine je_in jb_X12_code rfl (ls := [_, _, _, _, _]) rfl ?_
  refine je_ps jb_X12_code 1 (pc' := 1) (ls' := [_, _, _, _, _]) (st' := [_]) rfl ?_
  refine je_get jb_X12_code rfl (pc' := 4) rfl (jh_at (a := 45) rfl) (by rfl) (by rfl) ?_
  refine je_ps jb_X12_code 1 (pc' := 5) (ls' := [_, _, _, _, _]) (st' := [_, _]) rfl ?_
  refine je_iald jb_X12_code rfl (pc' := 6) rfl (n := 9) (f := _) (jh_at (a := 48) rfl) (by first | omega | exact (hM _ _).1 | exact (hM _ _).2) (by first | omega | exact (hM _ _).1 | exact (hM _ _).2) (by first | omega | exact (hM _ _).1 | exact (hM _ _).2) ?_
  rw [ge]
  refine je_ps jb_X12_code 1 (pc' := 8) (ls' := [_, _, _, _, _]) (st' := [_, _]) rfl ?_
  refine je_iadd jb_X12_code rfl (pc' := 9) rfl ?_
  refine je_i2l jb_X12_code rfl (pc' := 10) rfl (by first | omega | exact (hM _ _).1 | exact (hM _ _).2) (by first | omega | exact (hM _ _).1 | exact (hM _ _).2) ?_
  refine je_ps jb_X12_code 2 (pc' := 12) (ls' := [_, _, _, _, _]) (st' := [_]) rfl ?_
  refine je_get jb_X12_code rfl (pc' := 15) rfl (jh_at (a := 45) rfl) (by rfl) (by rfl) ?_
  refine je_ifeq jb_X12_code rfl (t := 22) rfl (pc' := 18) rfl (by first | omega | exact (hM _ _).1 | exact (hM _ _).2) (by first | omega | exact (hM _ _).1 | exact (hM _ _).2) (fun c15 => ?_) (fun c15 => ?_)
  · first | (exfalso; omega) | (cases c15; done) | (exfalso; simp_all; done)
  · refine je_ps jb_X12_code 3 (pc' := 26) (ls' := [_, _, _, _, _]) (st' := []) rfl ?_
    refine je_loop (fun (v : Nat) ls σ' => ls = [.ref 45, .int (jI w), .long (jL (gCd s n k L e v)), .retAddr 2, .int (jI (0 + (v : Int)))] ∧ σ' = jh m r T) (Int.toNat n) ⟨by rw [show 0 + ((0 : Nat) : Int) = 0 by omega]; rfl, rfl⟩ (fun v hv ls σ' gv kv => ?_) (fun ls σ' gv => ?_)
    · obtain ⟨rfl, rfl⟩ := gv
      have gq := g.2.2.2.2.1.1 (0 + (v : Int) - fLo s)
      have gz : gCd s n k L e (v + 1) = gCd s n k L e v * k + L (0 + (v : Int) - fLo s) := by rw [← fSh_at (s := s) (n := n) (L := L) (by unfold fC; omega) (by omega), ← hF]; rfl
      refine je_ps jb_X12_code 2 (pc' := 29) (ls' := [_, _, _, _, _]) (st' := [_, _]) rfl ?_
      refine je_get jb_X12_code rfl (pc' := 32) rfl (jh_at (a := 45) rfl) (by rfl) (by rfl) ?_
      refine je_ifeq jb_X12_code rfl (t := 42) rfl (pc' := 35) rfl (by first | omega | exact (hM _ _).1 | exact (hM _ _).2) (by first | omega | exact (hM _ _).1 | exact (hM _ _).2) (fun c32 => ?_) (fun c32 => ?_)
      · first | (exfalso; omega) | (cases c32; done) | (exfalso; simp_all; done)
      · refine je_ps jb_X12_code 1 (pc' := 36) (ls' := [_, _, _, _, _]) (st' := [_, _]) rfl ?_
        refine je_get jb_X12_code rfl (pc' := 39) rfl (jh_at (a := 45) rfl) (by rfl) (by rfl) ?_
        refine je_ps jb_X12_code 1 (pc' := 44) (ls' := [_, _, _, _, _]) (st' := [_, _]) rfl ?_
        refine je_icmpge jb_X12_code rfl (t := 70) rfl (pc' := 47) rfl (by first | omega | exact (hM _ _).1 | exact (hM _ _).2) (by first | omega | exact (hM _ _).1 | exact (hM _ _).2) (by first | omega | exact (hM _ _).1 | exact (hM _ _).2) (by first | omega | exact (hM _ _).1 | exact (hM _ _).2) (fun c44 => ?_) (fun c44 => ?_)
        · first | (exfalso; omega) | (cases c44; done) | (exfalso; simp_all; done)
        · refine je_ps jb_X12_code 2 (pc' := 49) (ls' := [_, _, _, _, _]) (st' := [_, _]) rfl ?_
          refine je_get jb_X12_code rfl (pc' := 52) rfl (jh_at (a := 45) rfl) (by rfl) (by rfl) ?_
          refine je_i2l jb_X12_code rfl (pc' := 53) rfl (by first | omega | exact (hM _ _).1 | exact (hM _ _).2) (by first | omega | exact (hM _ _).1 | exact (hM _ _).2) ?_
          refine je_lmul jb_X12_code rfl (pc' := 54) rfl ?_
          refine je_ps jb_X12_code 3 (pc' := 58) (ls' := [_, _, _, _, _]) (st' := [_, _, _, _]) rfl ?_
          refine je_cvP' jb_X12_code rfl (pc' := 61) rfl (jh_at (a := 45) rfl) (by rfl) (by first | decide | exact Nat.ble_eq_true_of_le (by omega)) (k_gat g (by unfold fC; omega)) (st' := [_, _]) rfl ?_
          refine je_i2l jb_X12_code rfl (pc' := 62) rfl (by first | omega | exact (hM _ _).1 | exact (hM _ _).2) (by first | omega | exact (hM _ _).1 | exact (hM _ _).2) ?_
          refine je_ladd jb_X12_code rfl (pc' := 63) rfl ?_
          refine je_ps jb_X12_code 1 (pc' := 64) (ls' := [_, _, _, _, _]) (st' := []) rfl ?_
          refine je_iinc jb_X12_code rfl (pc' := 67) rfl rfl (ls' := [_, _, _, _, _]) rfl ?_
          refine je_ps jb_X12_code 1 (pc' := 26) (ls' := [_, _, _, _, _]) (st' := []) rfl ?_
          refine kv _ _ ⟨by rw [gz, q4, show 0 + ((v + 1 : Nat) : Int) = 0 + (v : Int) + 1 by omega], rfl⟩
    · obtain ⟨rfl, rfl⟩ := gv
      refine je_ps jb_X12_code 2 (pc' := 29) (ls' := [_, _, _, _, _]) (st' := [_, _]) rfl ?_
      refine je_get jb_X12_code rfl (pc' := 32) rfl (jh_at (a := 45) rfl) (by rfl) (by rfl) ?_
      refine je_ifeq jb_X12_code rfl (t := 42) rfl (pc' := 35) rfl (by first | omega | exact (hM _ _).1 | exact (hM _ _).2) (by first | omega | exact (hM _ _).1 | exact (hM _ _).2) (fun c32 => ?_) (fun c32 => ?_)
      · first | (exfalso; omega) | (cases c32; done) | (exfalso; simp_all; done)
      · refine je_ps jb_X12_code 1 (pc' := 36) (ls' := [_, _, _, _, _]) (st' := [_, _]) rfl ?_
        refine je_get jb_X12_code rfl (pc' := 39) rfl (jh_at (a := 45) rfl) (by rfl) (by rfl) ?_
        refine je_ps jb_X12_code 1 (pc' := 44) (ls' := [_, _, _, _, _]) (st' := [_, _]) rfl ?_
        refine je_icmpge jb_X12_code rfl (t := 70) rfl (pc' := 47) rfl (by first | omega | exact (hM _ _).1 | exact (hM _ _).2) (by first | omega | exact (hM _ _).1 | exact (hM _ _).2) (by first | omega | exact (hM _ _).1 | exact (hM _ _).2) (by first | omega | exact (hM _ _).1 | exact (hM _ _).2) (fun c44 => ?_) (fun c44 => ?_)
        · refine je_ps jb_X12_code 1 (pc' := 71) (ls' := [_, _, _, _, _]) (st' := [_]) rfl ?_
          exact je_ret jb_X12_code rfl (by rfl) ⟨by unfold gCode; rw [hK], rfl⟩
        · first | (exfalso; omega) | (cases c44; done) | (exfalso; simp_all; done)
theorem k_gcode {w s n k e : Int} {L : Int → Int} (g : gWk m w s n k L e) : jq sc 2 jm_X12_code [.ref 45, .int (jI w)] (jh m r T) (jP (some (.long (jL (gCode s n k L e)))) (jh m r T)) := by
  by_cases h : s = 0
  · exact k_gcode_p g h
  · exact k_gcode_q g h
theorem k_gisNew {c : Int} {q : Nat} (hq : q ≤ 1024) (hc : -9000000000000000000 ≤ c ∧ c ≤ 9000000000000000000) (hm : ∀ j : Nat, j < q → -9000000000000000000 ≤ m 54 (j : Int) ∧ m 54 (j : Int) ≤ 9000000000000000000) : jq sc 1 jm_X12_isNew [.ref 45, .long (jL c), .int (jI q)] (jh m r T) (jP (some (.int (jI (jb (!fAny (fun p => decide (m 54 (p : Int) = c)) q))))) (jh m r T)) := by
  refine je_in jb_X12_isNew rfl (ls := [_, _, _, _, _]) rfl ?_
  refine je_ps jb_X12_isNew 2 (pc' := 3) (ls' := [_, _, _, _, _]) (st' := []) rfl ?_
  refine je_loop (fun (v : Nat) ls σ' => ls = [.ref 45, .long (jL c), .retAddr 2, .int (jI q), .int (jI v)] ∧ σ' = jh m r T ∧ ∀ p, p < v → decide (m 54 (p : Int) = c) = false) (q) ⟨rfl, rfl, fun p hp => by omega⟩ (fun v hv ls σ' gv kv => ?_) (fun ls σ' gv => ?_)
  · obtain ⟨rfl, rfl, fv⟩ := gv
    have gv := hm v hv
    have gl := lC_c (m 54 (v : Int)) c
    refine je_ps jb_X12_isNew 2 (pc' := 6) (ls' := [_, _, _, _, _]) (st' := [_, _]) rfl ?_
    refine je_icmpge jb_X12_isNew rfl (t := 29) rfl (pc' := 9) rfl (by first | omega | exact (hM _ _).1 | exact (hM _ _).2) (by first | omega | exact (hM _ _).1 | exact (hM _ _).2) (by first | omega | exact (hM _ _).1 | exact (hM _ _).2) (by first | omega | exact (hM _ _).1 | exact (hM _ _).2) (fun c6 => ?_) (fun c6 => ?_)
    · first | (exfalso; omega) | (cases c6; done) | (exfalso; simp_all; done)
    · refine je_ps jb_X12_isNew 1 (pc' := 10) (ls' := [_, _, _, _, _]) (st' := [_]) rfl ?_
      refine je_get jb_X12_isNew rfl (pc' := 13) rfl (jh_at (a := 45) rfl) (by rfl) (by rfl) ?_
      refine je_ps jb_X12_isNew 1 (pc' := 15) (ls' := [_, _, _, _, _]) (st' := [_, _]) rfl ?_
      refine je_lald jb_X12_isNew rfl (pc' := 16) rfl (n := 1024) (f := _) (jh_at (a := 54) rfl) (by first | omega | exact (hM _ _).1 | exact (hM _ _).2) (by first | omega | exact (hM _ _).1 | exact (hM _ _).2) (by first | omega | exact (hM _ _).1 | exact (hM _ _).2) ?_
      refine je_ps jb_X12_isNew 1 (pc' := 17) (ls' := [_, _, _, _, _]) (st' := [_, _]) rfl ?_
      refine je_lcmp jb_X12_isNew rfl (pc' := 18) rfl (by first | omega | exact (hM _ _).1 | exact (hM _ _).2) (by first | omega | exact (hM _ _).1 | exact (hM _ _).2) (by first | omega | exact (hM _ _).1 | exact (hM _ _).2) (by first | omega | exact (hM _ _).1 | exact (hM _ _).2) ?_
      refine je_ifne jb_X12_isNew rfl (t := 23) rfl (pc' := 21) rfl (by first | omega | exact (hM _ _).1 | exact (hM _ _).2) (by first | omega | exact (hM _ _).1 | exact (hM _ _).2) (fun c18 => ?_) (fun c18 => ?_)
      · refine je_iinc jb_X12_isNew rfl (pc' := 26) rfl rfl (ls' := [_, _, _, _, _]) rfl ?_
        refine je_ps jb_X12_isNew 1 (pc' := 3) (ls' := [_, _, _, _, _]) (st' := []) rfl ?_
        refine kv _ _ ⟨rfl, rfl, fun p hp => ?_⟩
        by_cases h : p = v
        · subst h; exact decide_eq_false (by omega)
        · exact fv p (by omega)
      · refine je_ps jb_X12_isNew 1 (pc' := 22) (ls' := [_, _, _, _, _]) (st' := [_]) rfl ?_
        rw [fAny_t hv (decide_eq_true (by omega))]
        exact je_ret jb_X12_isNew rfl (by rfl) ⟨rfl, rfl⟩
  · obtain ⟨rfl, rfl, fv⟩ := gv
    refine je_ps jb_X12_isNew 2 (pc' := 6) (ls' := [_, _, _, _, _]) (st' := [_, _]) rfl ?_
    refine je_icmpge jb_X12_isNew rfl (t := 29) rfl (pc' := 9) rfl (by first | omega | exact (hM _ _).1 | exact (hM _ _).2) (by first | omega | exact (hM _ _).1 | exact (hM _ _).2) (by first | omega | exact (hM _ _).1 | exact (hM _ _).2) (by first | omega | exact (hM _ _).1 | exact (hM _ _).2) (fun c6 => ?_) (fun c6 => ?_)
    · refine je_ps jb_X12_isNew 1 (pc' := 30) (ls' := [_, _, _, _, _]) (st' := [_]) rfl ?_
      rw [fAny_f fv]
      exact je_ret jb_X12_isNew rfl (by rfl) ⟨rfl, rfl⟩
    · first | (exfalso; omega) | (cases c6; done) | (exfalso; simp_all; done)
theorem gCd_i {s n k e : Int} {L : Int → Int} (h : fS s n k) (hL : fL n k L) (he : -12 ≤ e ∧ e ≤ 12) : ∀ v : Nat, 0 ≤ gCd s n k L e v ∧ gCd s n k L e v + 1 ≤ 25 * 5 ^ v
  | 0 => by
    show 0 ≤ e + 12 ∧ e + 12 + 1 ≤ 25 * 5 ^ 0
    omega
  | v + 1 => by
    have q := gCd_i h hL he v
    have hk : 2 ≤ k ∧ k ≤ 5 := h.2
    have sh := fSh_i (s := s) (n := n) hL (by omega) ((if s = 0 then -5 else 0) + (v : Int))
    show 0 ≤ gCd s n k L e v * k + fSh s n L ((if s = 0 then -5 else 0) + (v : Int)) ∧ gCd s n k L e v * k + fSh s n L ((if s = 0 then -5 else 0) + (v : Int)) + 1 ≤ 25 * 5 ^ (v + 1)
    have h1 : gCd s n k L e v * k ≤ gCd s n k L e v * 5 := Int.mul_le_mul_of_nonneg_left (by omega) q.1
    have h0 : 0 ≤ gCd s n k L e v * k := Int.mul_nonneg q.1 (by omega)
    rw [Int.pow_succ]
    omega
theorem gCode_i {s n k e : Int} {L : Int → Int} (h : fS s n k) (hL : fL n k L) (he : fC s n e) : 0 ≤ gCode s n k L e ∧ gCode s n k L e ≤ 9000000000000000000 := by
  have q := gCd_i h hL (fC_i h he) (if s = 0 then (11 : Int) else n).toNat
  have hK : (if s = 0 then (11 : Int) else n) ≤ 11 := by
    unfold fS at h
    split <;> omega
  have p : (5 : Int) ^ (if s = 0 then (11 : Int) else n).toNat ≤ 5 ^ 11 := by
    have := Nat.pow_le_pow_right (n := 5) (by decide) (show (if s = 0 then (11 : Int) else n).toNat ≤ 11 by omega)
    exact_mod_cast this
  unfold gCode
  have p2 : (5 : Int) ^ 11 = 48828125 := by decide
  omega
end C49
