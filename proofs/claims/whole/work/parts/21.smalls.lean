/-! THE CLASS, small things -/
section C21
variable {sc : Nat × (Nat → Int32)} {d M pc pc' : Nat} {ls st : List Value} {Q : Option Value → jx_H → Prop} {lst : List (Nat × Instr × Nat)} {own mx : Nat} {isi : Bool} {rt : Option FieldType} {m : Nat → Int → Int} {r : Nat → Nat → Value} {T : jx_H} {σ : jx_H}
theorem jI_and31 (a : Int) : jI a &&& jI 2147483647 = jI (a % 2147483648) := by
  apply Int32.toBitVec_inj.mp
  apply BitVec.eq_of_toNat_eq
  rw [Int32.toBitVec_and]
  show (BitVec.ofInt 32 a &&& BitVec.ofInt 32 2147483647).toNat = (BitVec.ofInt 32 (a % 2147483648)).toNat
  rw [BitVec.toNat_and, BitVec.toNat_ofInt, BitVec.toNat_ofInt, BitVec.toNat_ofInt]
  have e : ((2147483647 : Int) % ((2 ^ 32 : Nat) : Int)).toNat = 2 ^ 31 - 1 := by decide
  rw [e, Nat.and_two_pow_sub_one_eq_mod]
  omega
theorem je_iandm (hB : jx_B M lst own isi rt mx) {a : Int} {len : Nat} (hI : jx_lk lst pc = some (.iand, len)) (hp : pc + 1 = pc') (k : je sc d M pc' ls (.int (jI (a % 2147483648)) :: st) σ Q) : je sc d M pc ls (.int (jI 2147483647) :: .int (jI a) :: st) σ Q := by
  subst hp
  refine je_p1 hB hI (st' := .int (jI (a % 2147483648)) :: st) ?_ k
  simp only [jx_pure, jI_and31]
theorem fSg_c (v : Int) : (v = 0 ∧ fSg v = 97) ∨ (v = 1 ∧ fSg v = 65) ∨ (v = 2 ∧ fSg v = 116) ∨ (v ≠ 0 ∧ v ≠ 1 ∧ v ≠ 2 ∧ fSg v = 84) := by
  unfold fSg
  split
  · omega
  · split
    · omega
    · split <;> omega
def fLet (c : Int) : Int := if c = 97 then 0 else if c = 65 then 1 else if c = 116 then 2 else if c = 84 then 3 else -1
theorem fLet_c (c : Int) : (c = 97 ∧ fLet c = 0) ∨ (c = 65 ∧ fLet c = 1) ∨ (c = 116 ∧ fLet c = 2) ∨ (c = 84 ∧ fLet c = 3) ∨ (c ≠ 97 ∧ c ≠ 65 ∧ c ≠ 116 ∧ c ≠ 84 ∧ fLet c = -1) := by
  unfold fLet
  split
  · omega
  · split
    · omega
    · split
      · omega
      · split <;> omega
theorem c_X11_letterOf {c : Int} (hc : -2147483648 ≤ c ∧ c ≤ 2147483647) : jq sc 1 jm_X11_letterOf [.int (jI c)] σ (jP (some (.int (jI (fLet c)))) σ) := by
  have gl := fLet_c c
  refine je_in jb_X11_letterOf rfl (ls := [_, _]) rfl ?_
  refine je_ps jb_X11_letterOf 2 (pc' := 2) (ls' := [_, _]) (st' := []) rfl ?_
  refine je_loop (fun (v : Nat) ls σ' => ls = [.int (jI c), .int (jI v)] ∧ σ' = σ ∧ (fLet c = -1 ∨ (v : Int) ≤ fLet c)) (4) ⟨rfl, rfl, by omega⟩ (fun v hv ls σ' gv kv => ?_) (fun ls σ' gv => ?_)
  · obtain ⟨rfl, rfl, fv⟩ := gv
    have gs := fSg_c (v : Int)
    refine je_ps jb_X11_letterOf 1 (pc' := 3) (ls' := [_, _]) (st' := [_]) rfl ?_
    refine je_gets jb_X11_letterOf rfl (pc' := 6) rfl rfl ?_
    refine je_alenx jb_X11_letterOf rfl (pc' := 7) rfl ?_
    refine je_icmpge jb_X11_letterOf rfl (t := 27) rfl (pc' := 10) rfl (by first | omega | exact (hM _ _).1 | exact (hM _ _).2) (by first | omega | exact (hM _ _).1 | exact (hM _ _).2) (by first | omega | exact (hM _ _).1 | exact (hM _ _).2) (by first | omega | exact (hM _ _).1 | exact (hM _ _).2) (fun c7 => ?_) (fun c7 => ?_)
    · first | (exfalso; omega) | (cases c7; done) | (exfalso; simp_all; done)
    · refine je_gets jb_X11_letterOf rfl (pc' := 13) rfl rfl ?_
      refine je_ps jb_X11_letterOf 1 (pc' := 14) (ls' := [_, _]) (st' := [_, _]) rfl ?_
      refine je_ialdx jb_X11_letterOf rfl (pc' := 15) rfl (by first | omega | exact (hM _ _).1 | exact (hM _ _).2) (by first | omega | exact (hM _ _).1 | exact (hM _ _).2) ?_
      refine je_ps jb_X11_letterOf 1 (pc' := 16) (ls' := [_, _]) (st' := [_, _]) rfl ?_
      refine je_icmpne jb_X11_letterOf rfl (t := 21) rfl (pc' := 19) rfl (by first | omega | exact (hM _ _).1 | exact (hM _ _).2) (by first | omega | exact (hM _ _).1 | exact (hM _ _).2) (by first | omega | exact (hM _ _).1 | exact (hM _ _).2) (by first | omega | exact (hM _ _).1 | exact (hM _ _).2) (fun c16 => ?_) (fun c16 => ?_)
      · refine je_iinc jb_X11_letterOf rfl (pc' := 24) rfl rfl (ls' := [_, _]) rfl ?_
        refine je_ps jb_X11_letterOf 1 (pc' := 2) (ls' := [_, _]) (st' := []) rfl ?_
        exact kv _ _ ⟨rfl, rfl, by omega⟩
      · refine je_ps jb_X11_letterOf 1 (pc' := 20) (ls' := [_, _]) (st' := [_]) rfl ?_
        exact je_ret jb_X11_letterOf rfl (by rfl) ⟨by (first | rfl | (refine jv_t ?_; simp only [decide_eq_true_eq]; omega) | (refine jv_f ?_; simp only [decide_eq_false_iff_not]; omega) | (refine jv_I ?_; omega)), by (first | rfl | (refine jv_t ?_; simp only [decide_eq_true_eq]; omega) | (refine jv_f ?_; simp only [decide_eq_false_iff_not]; omega) | (refine jv_I ?_; omega))⟩
  · obtain ⟨rfl, rfl, fv⟩ := gv
    refine je_ps jb_X11_letterOf 1 (pc' := 3) (ls' := [_, _]) (st' := [_]) rfl ?_
    refine je_gets jb_X11_letterOf rfl (pc' := 6) rfl rfl ?_
    refine je_alenx jb_X11_letterOf rfl (pc' := 7) rfl ?_
    refine je_icmpge jb_X11_letterOf rfl (t := 27) rfl (pc' := 10) rfl (by first | omega | exact (hM _ _).1 | exact (hM _ _).2) (by first | omega | exact (hM _ _).1 | exact (hM _ _).2) (by first | omega | exact (hM _ _).1 | exact (hM _ _).2) (by first | omega | exact (hM _ _).1 | exact (hM _ _).2) (fun c7 => ?_) (fun c7 => ?_)
    · refine je_ps jb_X11_letterOf 1 (pc' := 28) (ls' := [_, _]) (st' := [_]) rfl ?_
      exact je_ret jb_X11_letterOf rfl (by rfl) ⟨by (first | rfl | (refine jv_t ?_; simp only [decide_eq_true_eq]; omega) | (refine jv_f ?_; simp only [decide_eq_false_iff_not]; omega) | (refine jv_I ?_; omega)), by (first | rfl | (refine jv_t ?_; simp only [decide_eq_true_eq]; omega) | (refine jv_f ?_; simp only [decide_eq_false_iff_not]; omega) | (refine jv_I ?_; omega))⟩
    · first | (exfalso; omega) | (cases c7; done) | (exfalso; simp_all; done)
theorem c_X11_signOf {l : Int} (hl : -2147483648 ≤ l ∧ l ≤ 2147483647) : jq sc 1 jm_X11_signOf [.int (jI l)] σ (jP (some (.int (jI (if 0 ≤ l ∧ l < 4 then fSg l else -9)))) σ) := by
  refine je_in jb_X11_signOf rfl (ls := [_]) rfl ?_
  refine je_ps jb_X11_signOf 1 (pc' := 1) (ls' := [_]) (st' := [_]) rfl ?_
  refine je_iflt jb_X11_signOf rfl (t := 20) rfl (pc' := 4) rfl (by first | omega | exact (hM _ _).1 | exact (hM _ _).2) (by first | omega | exact (hM _ _).1 | exact (hM _ _).2) (fun c1 => ?_) (fun c1 => ?_)
  · refine je_ps jb_X11_signOf 1 (pc' := 22) (ls' := [_]) (st' := [_]) rfl ?_
    first | exact je_ret jb_X11_signOf rfl (by rfl) ⟨jv_I (if_pos (by omega)).symm, rfl⟩ | exact je_ret jb_X11_signOf rfl (by rfl) ⟨jv_I (if_neg (by omega)).symm, rfl⟩
  · refine je_ps jb_X11_signOf 1 (pc' := 5) (ls' := [_]) (st' := [_]) rfl ?_
    refine je_gets jb_X11_signOf rfl (pc' := 8) rfl rfl ?_
    refine je_alenx jb_X11_signOf rfl (pc' := 9) rfl ?_
    refine je_icmpge jb_X11_signOf rfl (t := 20) rfl (pc' := 12) rfl (by first | omega | exact (hM _ _).1 | exact (hM _ _).2) (by first | omega | exact (hM _ _).1 | exact (hM _ _).2) (by first | omega | exact (hM _ _).1 | exact (hM _ _).2) (by first | omega | exact (hM _ _).1 | exact (hM _ _).2) (fun c9 => ?_) (fun c9 => ?_)
    · refine je_ps jb_X11_signOf 1 (pc' := 22) (ls' := [_]) (st' := [_]) rfl ?_
      first | exact je_ret jb_X11_signOf rfl (by rfl) ⟨jv_I (if_pos (by omega)).symm, rfl⟩ | exact je_ret jb_X11_signOf rfl (by rfl) ⟨jv_I (if_neg (by omega)).symm, rfl⟩
    · refine je_gets jb_X11_signOf rfl (pc' := 15) rfl rfl ?_
      refine je_ps jb_X11_signOf 1 (pc' := 16) (ls' := [_]) (st' := [_, _]) rfl ?_
      refine je_ialdx jb_X11_signOf rfl (pc' := 17) rfl (by first | omega | exact (hM _ _).1 | exact (hM _ _).2) (by first | omega | exact (hM _ _).1 | exact (hM _ _).2) ?_
      refine je_ps jb_X11_signOf 1 (pc' := 22) (ls' := [_]) (st' := [_]) rfl ?_
      first | exact je_ret jb_X11_signOf rfl (by rfl) ⟨jv_I (if_pos (by omega)).symm, rfl⟩ | exact je_ret jb_X11_signOf rfl (by rfl) ⟨jv_I (if_neg (by omega)).symm, rfl⟩
theorem c_X11_isDigit {c : Int} (hc : -2147483648 ≤ c ∧ c ≤ 2147483647) : jq sc 1 jm_X11_isDigit [.int (jI c)] σ (jP (some (.int (jI (jb (decide (49 ≤ c ∧ c ≤ 57)))))) σ) := by
  refine je_in jb_X11_isDigit rfl (ls := [_]) rfl ?_
  refine je_ps jb_X11_isDigit 2 (pc' := 3) (ls' := [_]) (st' := [_, _]) rfl ?_
  refine je_icmplt jb_X11_isDigit rfl (t := 16) rfl (pc' := 6) rfl (by first | omega | exact (hM _ _).1 | exact (hM _ _).2) (by first | omega | exact (hM _ _).1 | exact (hM _ _).2) (by first | omega | exact (hM _ _).1 | exact (hM _ _).2) (by first | omega | exact (hM _ _).1 | exact (hM _ _).2) (fun c3 => ?_) (fun c3 => ?_)
  · refine je_ps jb_X11_isDigit 1 (pc' := 17) (ls' := [_]) (st' := [_]) rfl ?_
    exact je_ret jb_X11_isDigit rfl (by rfl) ⟨by (first | rfl | (refine jv_t ?_; simp only [decide_eq_true_eq]; omega) | (refine jv_f ?_; simp only [decide_eq_false_iff_not]; omega) | (refine jv_I ?_; omega)), by (first | rfl | (refine jv_t ?_; simp only [decide_eq_true_eq]; omega) | (refine jv_f ?_; simp only [decide_eq_false_iff_not]; omega) | (refine jv_I ?_; omega))⟩
  · refine je_ps jb_X11_isDigit 2 (pc' := 9) (ls' := [_]) (st' := [_, _]) rfl ?_
    refine je_icmpgt jb_X11_isDigit rfl (t := 16) rfl (pc' := 12) rfl (by first | omega | exact (hM _ _).1 | exact (hM _ _).2) (by first | omega | exact (hM _ _).1 | exact (hM _ _).2) (by first | omega | exact (hM _ _).1 | exact (hM _ _).2) (by first | omega | exact (hM _ _).1 | exact (hM _ _).2) (fun c9 => ?_) (fun c9 => ?_)
    · refine je_ps jb_X11_isDigit 1 (pc' := 17) (ls' := [_]) (st' := [_]) rfl ?_
      exact je_ret jb_X11_isDigit rfl (by rfl) ⟨by (first | rfl | (refine jv_t ?_; simp only [decide_eq_true_eq]; omega) | (refine jv_f ?_; simp only [decide_eq_false_iff_not]; omega) | (refine jv_I ?_; omega)), by (first | rfl | (refine jv_t ?_; simp only [decide_eq_true_eq]; omega) | (refine jv_f ?_; simp only [decide_eq_false_iff_not]; omega) | (refine jv_I ?_; omega))⟩
    · refine je_ps jb_X11_isDigit 2 (pc' := 17) (ls' := [_]) (st' := [_]) rfl ?_
      exact je_ret jb_X11_isDigit rfl (by rfl) ⟨by (first | rfl | (refine jv_t ?_; simp only [decide_eq_true_eq]; omega) | (refine jv_f ?_; simp only [decide_eq_false_iff_not]; omega) | (refine jv_I ?_; omega)), by (first | rfl | (refine jv_t ?_; simp only [decide_eq_true_eq]; omega) | (refine jv_f ?_; simp only [decide_eq_false_iff_not]; omega) | (refine jv_I ?_; omega))⟩
theorem c_X11_isKind {c : Int} (hc : -2147483648 ≤ c ∧ c ≤ 2147483647) : jq sc 1 jm_X11_isKind [.int (jI c)] σ (jP (some (.int (jI (jb (decide (0 ≤ c ∧ c ≤ 5)))))) σ) := by
  refine je_in jb_X11_isKind rfl (ls := [_]) rfl ?_
  refine je_ps jb_X11_isKind 1 (pc' := 1) (ls' := [_]) (st' := [_]) rfl ?_
  refine je_iflt jb_X11_isKind rfl (t := 13) rfl (pc' := 4) rfl (by first | omega | exact (hM _ _).1 | exact (hM _ _).2) (by first | omega | exact (hM _ _).1 | exact (hM _ _).2) (fun c1 => ?_) (fun c1 => ?_)
  · refine je_ps jb_X11_isKind 1 (pc' := 14) (ls' := [_]) (st' := [_]) rfl ?_
    exact je_ret jb_X11_isKind rfl (by rfl) ⟨by (first | rfl | (refine jv_t ?_; simp only [decide_eq_true_eq]; omega) | (refine jv_f ?_; simp only [decide_eq_false_iff_not]; omega) | (refine jv_I ?_; omega)), by (first | rfl | (refine jv_t ?_; simp only [decide_eq_true_eq]; omega) | (refine jv_f ?_; simp only [decide_eq_false_iff_not]; omega) | (refine jv_I ?_; omega))⟩
  · refine je_ps jb_X11_isKind 2 (pc' := 6) (ls' := [_]) (st' := [_, _]) rfl ?_
    refine je_icmpgt jb_X11_isKind rfl (t := 13) rfl (pc' := 9) rfl (by first | omega | exact (hM _ _).1 | exact (hM _ _).2) (by first | omega | exact (hM _ _).1 | exact (hM _ _).2) (by first | omega | exact (hM _ _).1 | exact (hM _ _).2) (by first | omega | exact (hM _ _).1 | exact (hM _ _).2) (fun c6 => ?_) (fun c6 => ?_)
    · refine je_ps jb_X11_isKind 1 (pc' := 14) (ls' := [_]) (st' := [_]) rfl ?_
      exact je_ret jb_X11_isKind rfl (by rfl) ⟨by (first | rfl | (refine jv_t ?_; simp only [decide_eq_true_eq]; omega) | (refine jv_f ?_; simp only [decide_eq_false_iff_not]; omega) | (refine jv_I ?_; omega)), by (first | rfl | (refine jv_t ?_; simp only [decide_eq_true_eq]; omega) | (refine jv_f ?_; simp only [decide_eq_false_iff_not]; omega) | (refine jv_I ?_; omega))⟩
    · refine je_ps jb_X11_isKind 2 (pc' := 14) (ls' := [_]) (st' := [_]) rfl ?_
      exact je_ret jb_X11_isKind rfl (by rfl) ⟨by (first | rfl | (refine jv_t ?_; simp only [decide_eq_true_eq]; omega) | (refine jv_f ?_; simp only [decide_eq_false_iff_not]; omega) | (refine jv_I ?_; omega)), by (first | rfl | (refine jv_t ?_; simp only [decide_eq_true_eq]; omega) | (refine jv_f ?_; simp only [decide_eq_false_iff_not]; omega) | (refine jv_I ?_; omega))⟩
def fSeed (z : Int) : Int := z * 1664525 + 1013904223
theorem c_X11_nextSeed {z : Int} : jq sc 1 jm_X11_nextSeed [.int (jI z)] σ (jP (some (.int (jI (fSeed z)))) σ) := by
  refine je_in jb_X11_nextSeed rfl (ls := [_]) rfl ?_
  refine je_ps jb_X11_nextSeed 2 (pc' := 4) (ls' := [_]) (st' := [_, _]) rfl ?_
  refine je_imul jb_X11_nextSeed rfl (pc' := 5) rfl ?_
  refine je_ps jb_X11_nextSeed 1 (pc' := 8) (ls' := [_]) (st' := [_, _]) rfl ?_
  refine je_iadd jb_X11_nextSeed rfl (pc' := 9) rfl ?_
  exact je_ret jb_X11_nextSeed rfl (by rfl) ⟨by (first | rfl | (refine jv_t ?_; simp only [decide_eq_true_eq]; omega) | (refine jv_f ?_; simp only [decide_eq_false_iff_not]; omega) | (refine jv_I ?_; omega)), by (first | rfl | (refine jv_t ?_; simp only [decide_eq_true_eq]; omega) | (refine jv_f ?_; simp only [decide_eq_false_iff_not]; omega) | (refine jv_I ?_; omega))⟩
def fDrawn (z : Int) : Int := z % 2147483648 / 256 % 4
theorem c_X11_drawn {z b : Int} (hb : b = 4) : jq sc 2 jm_X11_drawn [.int (jI z), .int (jI b)] σ (jP (some (.int (jI (fDrawn z)))) σ) := by
  subst hb
  refine je_in jb_X11_drawn rfl (ls := [_, _]) rfl ?_
  refine je_ps jb_X11_drawn 2 (pc' := 4) (ls' := [_, _]) (st' := [_, _]) rfl ?_
  refine je_iandm jb_X11_drawn rfl (pc' := 5) rfl ?_
  refine je_ps jb_X11_drawn 1 (pc' := 8) (ls' := [_, _]) (st' := [_, _]) rfl ?_
  refine je_idiv jb_X11_drawn rfl (pc' := 9) rfl (by first | omega | exact (hM _ _).1 | exact (hM _ _).2) (by first | omega | exact (hM _ _).1 | exact (hM _ _).2) (by first | omega | exact (hM _ _).1 | exact (hM _ _).2) (by first | omega | exact (hM _ _).1 | exact (hM _ _).2) ?_
  refine je_ps jb_X11_drawn 1 (pc' := 10) (ls' := [_, _]) (st' := [_, _]) rfl ?_
  refine je_csP' jb_X11_drawn rfl (pc' := 13) rfl (by rfl) (by first | decide | exact Nat.ble_eq_true_of_le (by omega)) (c_X11_around (by omega) (by omega) (by omega) (by omega)) (st' := [_]) rfl ?_
  exact je_ret jb_X11_drawn rfl (by rfl) ⟨by (first | rfl | (refine jv_t ?_; simp only [decide_eq_true_eq]; omega) | (refine jv_f ?_; simp only [decide_eq_false_iff_not]; omega) | (refine jv_I ?_; omega)), by (first | rfl | (refine jv_t ?_; simp only [decide_eq_true_eq]; omega) | (refine jv_f ?_; simp only [decide_eq_false_iff_not]; omega) | (refine jv_I ?_; omega))⟩
theorem c_X11_refuse {x : Int} (hx : -6 ≤ x ∧ x ≤ -1) : jq sc 1 jm_X11_refuse [.ref 0, .int (jI x)] (jh m r T) (jP (some (.int (jI x))) (jh (jU m 44 (ju (m 44) (-1 - x) (m 44 (-1 - x) + 1))) r T)) := by
  refine je_in jb_X11_refuse rfl (ls := [_, _, _]) rfl ?_
  refine je_ps jb_X11_refuse 2 (pc' := 2) (ls' := [_, _, _]) (st' := [_, _]) rfl ?_
  refine je_isub jb_X11_refuse rfl (pc' := 3) rfl ?_
  refine je_ps jb_X11_refuse 2 (pc' := 5) (ls' := [_, _, _]) (st' := [_]) rfl ?_
  refine je_iflt jb_X11_refuse rfl (t := 27) rfl (pc' := 8) rfl (by first | omega | exact (hM _ _).1 | exact (hM _ _).2) (by first | omega | exact (hM _ _).1 | exact (hM _ _).2) (fun c5 => ?_) (fun c5 => ?_)
  · first | (exfalso; omega) | (cases c5; done) | (exfalso; simp_all; done)
  · refine je_ps jb_X11_refuse 2 (pc' := 10) (ls' := [_, _, _]) (st' := [_, _]) rfl ?_
    refine je_get jb_X11_refuse rfl (pc' := 13) rfl (jh_at (a := 0) rfl) (by rfl) (by rfl) ?_
    refine je_alen jb_X11_refuse rfl (pc' := 14) rfl (n := 6) (f := _) (jh_at (a := 44) rfl) ?_
    refine je_icmpge jb_X11_refuse rfl (t := 27) rfl (pc' := 17) rfl (by first | omega | exact (hM _ _).1 | exact (hM _ _).2) (by first | omega | exact (hM _ _).1 | exact (hM _ _).2) (by first | omega | exact (hM _ _).1 | exact (hM _ _).2) (by first | omega | exact (hM _ _).1 | exact (hM _ _).2) (fun c14 => ?_) (fun c14 => ?_)
    · first | (exfalso; omega) | (cases c14; done) | (exfalso; simp_all; done)
    · refine je_ps jb_X11_refuse 1 (pc' := 18) (ls' := [_, _, _]) (st' := [_]) rfl ?_
      refine je_get jb_X11_refuse rfl (pc' := 21) rfl (jh_at (a := 0) rfl) (by rfl) (by rfl) ?_
      refine je_ps jb_X11_refuse 2 (pc' := 23) (ls' := [_, _, _]) (st' := [_, _, _, _]) rfl ?_
      refine je_iald jb_X11_refuse rfl (pc' := 24) rfl (n := 6) (f := _) (jh_at (a := 44) rfl) (by first | omega | exact (hM _ _).1 | exact (hM _ _).2) (by first | omega | exact (hM _ _).1 | exact (hM _ _).2) (by first | omega | exact (hM _ _).1 | exact (hM _ _).2) ?_
      refine je_ps jb_X11_refuse 1 (pc' := 25) (ls' := [_, _, _]) (st' := [_, _, _, _]) rfl ?_
      refine je_iadd jb_X11_refuse rfl (pc' := 26) rfl ?_
      refine je_iastI jb_X11_refuse rfl (pc' := 27) rfl (n := 6) (a := 44) rfl (fun _ => rfl) (by first | omega | exact (hM _ _).1 | exact (hM _ _).2) (by first | omega | exact (hM _ _).1 | exact (hM _ _).2) (by first | omega | exact (hM _ _).1 | exact (hM _ _).2) ?_
      refine je_ps jb_X11_refuse 1 (pc' := 28) (ls' := [_, _, _]) (st' := [_]) rfl ?_
      exact je_ret jb_X11_refuse rfl (by rfl) ⟨by (first | rfl | (refine jv_t ?_; simp only [decide_eq_true_eq]; omega) | (refine jv_f ?_; simp only [decide_eq_false_iff_not]; omega) | (refine jv_I ?_; omega)), by (first | rfl | (refine jv_t ?_; simp only [decide_eq_true_eq]; omega) | (refine jv_f ?_; simp only [decide_eq_false_iff_not]; omega) | (refine jv_I ?_; omega))⟩
theorem c_X11_refuseFar {x : Int} (hx : -6 ≤ x ∧ x ≤ -1) : jq sc 2 jm_X11_refuseFar [.ref 0, .int (jI x)] (jh m r T) (jP (some (.int (jI (1000000000 - x)))) (jh (jU m 44 (ju (m 44) (-1 - x) (m 44 (-1 - x) + 1))) r T)) := by
  refine je_in jb_X11_refuseFar rfl (ls := [_, _]) rfl ?_
  refine je_ps jb_X11_refuseFar 3 (pc' := 5) (ls' := [_, _]) (st' := [_, _, _]) rfl ?_
  refine je_cvP' jb_X11_refuseFar rfl (pc' := 8) rfl (jh_at (a := 0) rfl) (by rfl) (by first | decide | exact Nat.ble_eq_true_of_le (by omega)) (c_X11_refuse (by omega)) (st' := [_, _]) rfl ?_
  refine je_isub jb_X11_refuseFar rfl (pc' := 9) rfl ?_
  exact je_ret jb_X11_refuseFar rfl (by rfl) ⟨by (first | rfl | (refine jv_t ?_; simp only [decide_eq_true_eq]; omega) | (refine jv_f ?_; simp only [decide_eq_false_iff_not]; omega) | (refine jv_I ?_; omega)), by (first | rfl | (refine jv_t ?_; simp only [decide_eq_true_eq]; omega) | (refine jv_f ?_; simp only [decide_eq_false_iff_not]; omega) | (refine jv_I ?_; omega))⟩
theorem c_X11_refuseFarLong {x : Int} (hx : -6 ≤ x ∧ x ≤ -1) : jq sc 2 jm_X11_refuseFarLong [.ref 0, .int (jI x)] (jh m r T) (jP (some (.long (jL (4000000000000000000 - x)))) (jh (jU m 44 (ju (m 44) (-1 - x) (m 44 (-1 - x) + 1))) r T)) := by
  refine je_in jb_X11_refuseFarLong rfl (ls := [_, _]) rfl ?_
  refine je_ps jb_X11_refuseFarLong 3 (pc' := 5) (ls' := [_, _]) (st' := [_, _, _]) rfl ?_
  refine je_cvP' jb_X11_refuseFarLong rfl (pc' := 8) rfl (jh_at (a := 0) rfl) (by rfl) (by first | decide | exact Nat.ble_eq_true_of_le (by omega)) (c_X11_refuse (by omega)) (st' := [_, _]) rfl ?_
  refine je_i2l jb_X11_refuseFarLong rfl (pc' := 9) rfl (by first | omega | exact (hM _ _).1 | exact (hM _ _).2) (by first | omega | exact (hM _ _).1 | exact (hM _ _).2) ?_
  refine je_lsub jb_X11_refuseFarLong rfl (pc' := 10) rfl ?_
  exact je_ret jb_X11_refuseFarLong rfl (by rfl) ⟨by (first | rfl | (refine jv_t ?_; simp only [decide_eq_true_eq]; omega) | (refine jv_f ?_; simp only [decide_eq_false_iff_not]; omega) | (refine jv_I ?_; omega)), by (first | rfl | (refine jv_t ?_; simp only [decide_eq_true_eq]; omega) | (refine jv_f ?_; simp only [decide_eq_false_iff_not]; omega) | (refine jv_I ?_; omega))⟩
theorem c_X11_isList {l : Int} (hl : -2147483648 ≤ l ∧ l ≤ 2147483647) : jq sc 1 jm_X11_isList [.ref 0, .int (jI l)] (jh m r T) (jP (some (.int (jI (jb (decide (0 ≤ l ∧ l < 3)))))) (jh m r T)) := by
  refine je_in jb_X11_isList rfl (ls := [_, _]) rfl ?_
  refine je_ps jb_X11_isList 1 (pc' := 1) (ls' := [_, _]) (st' := [_]) rfl ?_
  refine je_iflt jb_X11_isList rfl (t := 17) rfl (pc' := 4) rfl (by first | omega | exact (hM _ _).1 | exact (hM _ _).2) (by first | omega | exact (hM _ _).1 | exact (hM _ _).2) (fun c1 => ?_) (fun c1 => ?_)
  · refine je_ps jb_X11_isList 1 (pc' := 18) (ls' := [_, _]) (st' := [_]) rfl ?_
    exact je_ret jb_X11_isList rfl (by rfl) ⟨by (first | rfl | (refine jv_t ?_; simp only [decide_eq_true_eq]; omega) | (refine jv_f ?_; simp only [decide_eq_false_iff_not]; omega) | (refine jv_I ?_; omega)), by (first | rfl | (refine jv_t ?_; simp only [decide_eq_true_eq]; omega) | (refine jv_f ?_; simp only [decide_eq_false_iff_not]; omega) | (refine jv_I ?_; omega))⟩
  · refine je_ps jb_X11_isList 2 (pc' := 6) (ls' := [_, _]) (st' := [_, _]) rfl ?_
    refine je_get jb_X11_isList rfl (pc' := 9) rfl (jh_at (a := 0) rfl) (by rfl) (by rfl) ?_
    refine je_alenr jb_X11_isList rfl (pc' := 10) rfl (jh_at (a := 43) rfl) rfl (n := 3) rfl ?_
    refine je_icmpge jb_X11_isList rfl (t := 17) rfl (pc' := 13) rfl (by first | omega | exact (hM _ _).1 | exact (hM _ _).2) (by first | omega | exact (hM _ _).1 | exact (hM _ _).2) (by first | omega | exact (hM _ _).1 | exact (hM _ _).2) (by first | omega | exact (hM _ _).1 | exact (hM _ _).2) (fun c10 => ?_) (fun c10 => ?_)
    · refine je_ps jb_X11_isList 1 (pc' := 18) (ls' := [_, _]) (st' := [_]) rfl ?_
      exact je_ret jb_X11_isList rfl (by rfl) ⟨by (first | rfl | (refine jv_t ?_; simp only [decide_eq_true_eq]; omega) | (refine jv_f ?_; simp only [decide_eq_false_iff_not]; omega) | (refine jv_I ?_; omega)), by (first | rfl | (refine jv_t ?_; simp only [decide_eq_true_eq]; omega) | (refine jv_f ?_; simp only [decide_eq_false_iff_not]; omega) | (refine jv_I ?_; omega))⟩
    · refine je_ps jb_X11_isList 2 (pc' := 18) (ls' := [_, _]) (st' := [_]) rfl ?_
      exact je_ret jb_X11_isList rfl (by rfl) ⟨by (first | rfl | (refine jv_t ?_; simp only [decide_eq_true_eq]; omega) | (refine jv_f ?_; simp only [decide_eq_false_iff_not]; omega) | (refine jv_I ?_; omega)), by (first | rfl | (refine jv_t ?_; simp only [decide_eq_true_eq]; omega) | (refine jv_f ?_; simp only [decide_eq_false_iff_not]; omega) | (refine jv_I ?_; omega))⟩
end C21
