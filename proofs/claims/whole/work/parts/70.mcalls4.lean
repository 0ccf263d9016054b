/-! CALLS of the other side: helpers -/
section C70
variable {sc : Nat × (Nat → Int32)} {m : Nat → Int → Int} {r : Nat → Nat → Value} {T : jx_H} {σ : jx_H}
theorem hv_fin : ∀ k : Nat, k < 6 → ∀ f : Nat, f < 10 → hLen (k : Int) (f : Int) = (if (k : Int) = 0 then (f : Int) + 1 else if (k : Int) = 3 then 2 * (f : Int) + 4 else if (k : Int) = 4 then 2 * (f : Int) + 2 else if (k : Int) = 5 then (f : Int) + 3 else (f : Int) + 2) ∧ hMov (k : Int) (f : Int) = (if (k : Int) = 0 then 0 else if (k : Int) = 1 then 1 else if (k : Int) = 3 then 2 else if (k : Int) = 4 then (f : Int) + 1 else -1) := by decide +kernel
theorem hv_i {k f : Int} (hk : 0 ≤ k ∧ k ≤ 5) (hf : 0 ≤ f ∧ f ≤ 9) : hLen k f = (if k = 0 then f + 1 else if k = 3 then 2 * f + 4 else if k = 4 then 2 * f + 2 else if k = 5 then f + 3 else f + 2) ∧ hMov k f = (if k = 0 then 0 else if k = 1 then 1 else if k = 3 then 2 else if k = 4 then f + 1 else -1) := by
  obtain ⟨k', rfl⟩ := Int.eq_ofNat_of_zero_le hk.1
  obtain ⟨f', rfl⟩ := Int.eq_ofNat_of_zero_le hf.1
  exact hv_fin k' (by omega) f' (by omega)
theorem c_X12_lettersOf {k f : Int} (hk : 0 ≤ k ∧ k ≤ 5) (hf : 0 ≤ f ∧ f ≤ 9) : jq sc 1 jm_X12_lettersOf [.int (jI k), .int (jI f)] σ (jP (some (.int (jI (hLen k f)))) σ) := by
  have h := (hv_i hk hf).1
  refine je_in jb_X12_lettersOf rfl (ls := [_, _]) rfl ?_
  refine je_ps jb_X12_lettersOf 1 (pc' := 1) (ls' := [_, _]) (st' := [_]) rfl ?_
  refine je_swc fun y1 ey1 => ?_
  rcases (by omega : y1 = 0 ∨ y1 = 1 ∨ y1 = 2 ∨ y1 = 3 ∨ y1 = 4 ∨ y1 = 5 ∨ (y1 < 0 ∨ 5 < y1)) with c1 | c1 | c1 | c1 | c1 | c1 | c1
  · rw [c1]
    refine je_sw jb_X12_lettersOf rfl (t := 40) (st' := []) rfl ?_
    refine je_ps jb_X12_lettersOf 2 (pc' := 42) (ls' := [_, _]) (st' := [_, _]) rfl ?_
    refine je_iadd jb_X12_lettersOf rfl (pc' := 43) rfl ?_
    exact je_ret jb_X12_lettersOf rfl (by rfl) ⟨jv_I (by rw [h]; first | (exfalso; omega) | rw [if_pos (by omega)] | rw [if_neg (by omega), if_pos (by omega)] | rw [if_neg (by omega), if_neg (by omega), if_pos (by omega)] | rw [if_neg (by omega), if_neg (by omega), if_neg (by omega), if_pos (by omega)] | rw [if_neg (by omega), if_neg (by omega), if_neg (by omega), if_neg (by omega)]), rfl⟩
  · rw [c1]
    refine je_sw jb_X12_lettersOf rfl (t := 60) (st' := []) rfl ?_
    refine je_ps jb_X12_lettersOf 2 (pc' := 62) (ls' := [_, _]) (st' := [_, _]) rfl ?_
    refine je_iadd jb_X12_lettersOf rfl (pc' := 63) rfl ?_
    exact je_ret jb_X12_lettersOf rfl (by rfl) ⟨jv_I (by rw [h]; first | (exfalso; omega) | rw [if_pos (by omega)] | rw [if_neg (by omega), if_pos (by omega)] | rw [if_neg (by omega), if_neg (by omega), if_pos (by omega)] | rw [if_neg (by omega), if_neg (by omega), if_neg (by omega), if_pos (by omega)] | rw [if_neg (by omega), if_neg (by omega), if_neg (by omega), if_neg (by omega)]), rfl⟩
  · rw [c1]
    refine je_sw jb_X12_lettersOf rfl (t := 60) (st' := []) rfl ?_
    refine je_ps jb_X12_lettersOf 2 (pc' := 62) (ls' := [_, _]) (st' := [_, _]) rfl ?_
    refine je_iadd jb_X12_lettersOf rfl (pc' := 63) rfl ?_
    exact je_ret jb_X12_lettersOf rfl (by rfl) ⟨jv_I (by rw [h]; first | (exfalso; omega) | rw [if_pos (by omega)] | rw [if_neg (by omega), if_pos (by omega)] | rw [if_neg (by omega), if_neg (by omega), if_pos (by omega)] | rw [if_neg (by omega), if_neg (by omega), if_neg (by omega), if_pos (by omega)] | rw [if_neg (by omega), if_neg (by omega), if_neg (by omega), if_neg (by omega)]), rfl⟩
  · rw [c1]
    refine je_sw jb_X12_lettersOf rfl (t := 44) (st' := []) rfl ?_
    refine je_ps jb_X12_lettersOf 2 (pc' := 46) (ls' := [_, _]) (st' := [_, _]) rfl ?_
    refine je_imul jb_X12_lettersOf rfl (pc' := 47) rfl ?_
    refine je_ps jb_X12_lettersOf 1 (pc' := 48) (ls' := [_, _]) (st' := [_, _]) rfl ?_
    refine je_iadd jb_X12_lettersOf rfl (pc' := 49) rfl ?_
    exact je_ret jb_X12_lettersOf rfl (by rfl) ⟨jv_I (by rw [h]; first | (exfalso; omega) | rw [if_pos (by omega)] | rw [if_neg (by omega), if_pos (by omega)] | rw [if_neg (by omega), if_neg (by omega), if_pos (by omega)] | rw [if_neg (by omega), if_neg (by omega), if_neg (by omega), if_pos (by omega)] | rw [if_neg (by omega), if_neg (by omega), if_neg (by omega), if_neg (by omega)]), rfl⟩
  · rw [c1]
    refine je_sw jb_X12_lettersOf rfl (t := 50) (st' := []) rfl ?_
    refine je_ps jb_X12_lettersOf 2 (pc' := 52) (ls' := [_, _]) (st' := [_, _]) rfl ?_
    refine je_imul jb_X12_lettersOf rfl (pc' := 53) rfl ?_
    refine je_ps jb_X12_lettersOf 1 (pc' := 54) (ls' := [_, _]) (st' := [_, _]) rfl ?_
    refine je_iadd jb_X12_lettersOf rfl (pc' := 55) rfl ?_
    exact je_ret jb_X12_lettersOf rfl (by rfl) ⟨jv_I (by rw [h]; first | (exfalso; omega) | rw [if_pos (by omega)] | rw [if_neg (by omega), if_pos (by omega)] | rw [if_neg (by omega), if_neg (by omega), if_pos (by omega)] | rw [if_neg (by omega), if_neg (by omega), if_neg (by omega), if_pos (by omega)] | rw [if_neg (by omega), if_neg (by omega), if_neg (by omega), if_neg (by omega)]), rfl⟩
  · rw [c1]
    refine je_sw jb_X12_lettersOf rfl (t := 56) (st' := []) rfl ?_
    refine je_ps jb_X12_lettersOf 2 (pc' := 58) (ls' := [_, _]) (st' := [_, _]) rfl ?_
    refine je_iadd jb_X12_lettersOf rfl (pc' := 59) rfl ?_
    exact je_ret jb_X12_lettersOf rfl (by rfl) ⟨jv_I (by rw [h]; first | (exfalso; omega) | rw [if_pos (by omega)] | rw [if_neg (by omega), if_pos (by omega)] | rw [if_neg (by omega), if_neg (by omega), if_pos (by omega)] | rw [if_neg (by omega), if_neg (by omega), if_neg (by omega), if_pos (by omega)] | rw [if_neg (by omega), if_neg (by omega), if_neg (by omega), if_neg (by omega)]), rfl⟩
  · refine je_swO jb_X12_lettersOf rfl (t := 60) rfl (by omega) (by omega) c1 ?_
    refine je_ps jb_X12_lettersOf 2 (pc' := 62) (ls' := [_, _]) (st' := [_, _]) rfl ?_
    refine je_iadd jb_X12_lettersOf rfl (pc' := 63) rfl ?_
    exact je_ret jb_X12_lettersOf rfl (by rfl) ⟨jv_I (by rw [h]; first | (exfalso; omega) | rw [if_pos (by omega)] | rw [if_neg (by omega), if_pos (by omega)] | rw [if_neg (by omega), if_neg (by omega), if_pos (by omega)] | rw [if_neg (by omega), if_neg (by omega), if_neg (by omega), if_pos (by omega)] | rw [if_neg (by omega), if_neg (by omega), if_neg (by omega), if_neg (by omega)]), rfl⟩
theorem c_X12_moveOf {k f : Int} (hk : 0 ≤ k ∧ k ≤ 5) (hf : 0 ≤ f ∧ f ≤ 9) : jq sc 1 jm_X12_moveOf [.int (jI k), .int (jI f)] σ (jP (some (.int (jI (hMov k f)))) σ) := by
  have h := (hv_i hk hf).2
  refine je_in jb_X12_moveOf rfl (ls := [_, _]) rfl ?_
  refine je_ps jb_X12_moveOf 1 (pc' := 1) (ls' := [_, _]) (st' := [_]) rfl ?_
  refine je_swc fun y1 ey1 => ?_
  rcases (by omega : y1 = 0 ∨ y1 = 1 ∨ y1 = 2 ∨ y1 = 3 ∨ y1 = 4 ∨ (y1 < 0 ∨ 4 < y1)) with c1 | c1 | c1 | c1 | c1 | c1
  · rw [c1]
    refine je_sw jb_X12_moveOf rfl (t := 36) (st' := []) rfl ?_
    refine je_ps jb_X12_moveOf 1 (pc' := 37) (ls' := [_, _]) (st' := [_]) rfl ?_
    exact je_ret jb_X12_moveOf rfl (by rfl) ⟨jv_I (by rw [h]; first | (exfalso; omega) | rw [if_pos (by omega)] | rw [if_neg (by omega), if_pos (by omega)] | rw [if_neg (by omega), if_neg (by omega), if_pos (by omega)] | rw [if_neg (by omega), if_neg (by omega), if_neg (by omega), if_pos (by omega)] | rw [if_neg (by omega), if_neg (by omega), if_neg (by omega), if_neg (by omega)]), rfl⟩
  · rw [c1]
    refine je_sw jb_X12_moveOf rfl (t := 38) (st' := []) rfl ?_
    refine je_ps jb_X12_moveOf 1 (pc' := 39) (ls' := [_, _]) (st' := [_]) rfl ?_
    exact je_ret jb_X12_moveOf rfl (by rfl) ⟨jv_I (by rw [h]; first | (exfalso; omega) | rw [if_pos (by omega)] | rw [if_neg (by omega), if_pos (by omega)] | rw [if_neg (by omega), if_neg (by omega), if_pos (by omega)] | rw [if_neg (by omega), if_neg (by omega), if_neg (by omega), if_pos (by omega)] | rw [if_neg (by omega), if_neg (by omega), if_neg (by omega), if_neg (by omega)]), rfl⟩
  · rw [c1]
    refine je_sw jb_X12_moveOf rfl (t := 46) (st' := []) rfl ?_
    refine je_ps jb_X12_moveOf 1 (pc' := 47) (ls' := [_, _]) (st' := [_]) rfl ?_
    exact je_ret jb_X12_moveOf rfl (by rfl) ⟨jv_I (by rw [h]; first | (exfalso; omega) | rw [if_pos (by omega)] | rw [if_neg (by omega), if_pos (by omega)] | rw [if_neg (by omega), if_neg (by omega), if_pos (by omega)] | rw [if_neg (by omega), if_neg (by omega), if_neg (by omega), if_pos (by omega)] | rw [if_neg (by omega), if_neg (by omega), if_neg (by omega), if_neg (by omega)]), rfl⟩
  · rw [c1]
    refine je_sw jb_X12_moveOf rfl (t := 40) (st' := []) rfl ?_
    refine je_ps jb_X12_moveOf 1 (pc' := 41) (ls' := [_, _]) (st' := [_]) rfl ?_
    exact je_ret jb_X12_moveOf rfl (by rfl) ⟨jv_I (by rw [h]; first | (exfalso; omega) | rw [if_pos (by omega)] | rw [if_neg (by omega), if_pos (by omega)] | rw [if_neg (by omega), if_neg (by omega), if_pos (by omega)] | rw [if_neg (by omega), if_neg (by omega), if_neg (by omega), if_pos (by omega)] | rw [if_neg (by omega), if_neg (by omega), if_neg (by omega), if_neg (by omega)]), rfl⟩
  · rw [c1]
    refine je_sw jb_X12_moveOf rfl (t := 42) (st' := []) rfl ?_
    refine je_ps jb_X12_moveOf 2 (pc' := 44) (ls' := [_, _]) (st' := [_, _]) rfl ?_
    refine je_iadd jb_X12_moveOf rfl (pc' := 45) rfl ?_
    exact je_ret jb_X12_moveOf rfl (by rfl) ⟨jv_I (by rw [h]; first | (exfalso; omega) | rw [if_pos (by omega)] | rw [if_neg (by omega), if_pos (by omega)] | rw [if_neg (by omega), if_neg (by omega), if_pos (by omega)] | rw [if_neg (by omega), if_neg (by omega), if_neg (by omega), if_pos (by omega)] | rw [if_neg (by omega), if_neg (by omega), if_neg (by omega), if_neg (by omega)]), rfl⟩
  · refine je_swO jb_X12_moveOf rfl (t := 46) rfl (by omega) (by omega) c1 ?_
    refine je_ps jb_X12_moveOf 1 (pc' := 47) (ls' := [_, _]) (st' := [_]) rfl ?_
    exact je_ret jb_X12_moveOf rfl (by rfl) ⟨jv_I (by rw [h]; first | (exfalso; omega) | rw [if_pos (by omega)] | rw [if_neg (by omega), if_pos (by omega)] | rw [if_neg (by omega), if_neg (by omega), if_pos (by omega)] | rw [if_neg (by omega), if_neg (by omega), if_neg (by omega), if_pos (by omega)] | rw [if_neg (by omega), if_neg (by omega), if_neg (by omega), if_neg (by omega)]), rfl⟩
theorem hOf_iff (h a : Int) : hOf h a = true ↔ (a = 0 ∨ h = a ∨ (a = 1 ∧ (h = 3 ∨ h = 4)) ∨ (a = 2 ∧ h = 5)) := by
  unfold hOf
  by_cases c0 : a = 0
  · rw [if_pos c0]
    simp [c0]
  · rw [if_neg c0]
    by_cases c1 : a = 1
    · rw [if_pos c1, decide_eq_true_eq]
      omega
    · rw [if_neg c1]
      by_cases c2 : a = 2
      · rw [if_pos c2, decide_eq_true_eq]
        omega
      · rw [if_neg c2, decide_eq_true_eq]
        omega
theorem hOf_f {h a : Int} (n : ¬ (a = 0 ∨ h = a ∨ (a = 1 ∧ (h = 3 ∨ h = 4)) ∨ (a = 2 ∧ h = 5))) : hOf h a = false := by
  cases q : hOf h a with
  | false => rfl
  | true => exact absurd ((hOf_iff h a).mp q) n
theorem c_X12_isUnder {h a : Int} (hh : 0 ≤ h ∧ h ≤ 5) (ha : 0 ≤ a ∧ a ≤ 5) : jq sc 1 jm_X12_isUnder [.int (jI h), .int (jI a)] σ (jP (some (.int (jI (jb (hOf h a))))) σ) := by
  refine je_in jb_X12_isUnder rfl (ls := [_, _]) rfl ?_
  refine je_ps jb_X12_isUnder 1 (pc' := 1) (ls' := [_, _]) (st' := [_]) rfl ?_
  refine je_ifeq jb_X12_isUnder rfl (t := 34) rfl (pc' := 4) rfl (by first | omega | exact (hM _ _).1 | exact (hM _ _).2) (by first | omega | exact (hM _ _).1 | exact (hM _ _).2) (fun c1 => ?_) (fun c1 => ?_)
  · refine je_ps jb_X12_isUnder 2 (pc' := 39) (ls' := [_, _]) (st' := [_]) rfl ?_
    first | exact je_ret jb_X12_isUnder rfl (by rfl) ⟨jv_t ((hOf_iff h a).mpr (by omega)), rfl⟩ | exact je_ret jb_X12_isUnder rfl (by rfl) ⟨jv_f (hOf_f (by omega)), rfl⟩
  · refine je_ps jb_X12_isUnder 2 (pc' := 6) (ls' := [_, _]) (st' := [_, _]) rfl ?_
    refine je_icmpeq jb_X12_isUnder rfl (t := 34) rfl (pc' := 9) rfl (by first | omega | exact (hM _ _).1 | exact (hM _ _).2) (by first | omega | exact (hM _ _).1 | exact (hM _ _).2) (by first | omega | exact (hM _ _).1 | exact (hM _ _).2) (by first | omega | exact (hM _ _).1 | exact (hM _ _).2) (fun c6 => ?_) (fun c6 => ?_)
    · refine je_ps jb_X12_isUnder 2 (pc' := 39) (ls' := [_, _]) (st' := [_]) rfl ?_
      first | exact je_ret jb_X12_isUnder rfl (by rfl) ⟨jv_t ((hOf_iff h a).mpr (by omega)), rfl⟩ | exact je_ret jb_X12_isUnder rfl (by rfl) ⟨jv_f (hOf_f (by omega)), rfl⟩
    · refine je_ps jb_X12_isUnder 2 (pc' := 11) (ls' := [_, _]) (st' := [_, _]) rfl ?_
      refine je_icmpne jb_X12_isUnder rfl (t := 24) rfl (pc' := 14) rfl (by first | omega | exact (hM _ _).1 | exact (hM _ _).2) (by first | omega | exact (hM _ _).1 | exact (hM _ _).2) (by first | omega | exact (hM _ _).1 | exact (hM _ _).2) (by first | omega | exact (hM _ _).1 | exact (hM _ _).2) (fun c11 => ?_) (fun c11 => ?_)
      · refine je_ps jb_X12_isUnder 2 (pc' := 26) (ls' := [_, _]) (st' := [_, _]) rfl ?_
        refine je_icmpne jb_X12_isUnder rfl (t := 38) rfl (pc' := 29) rfl (by first | omega | exact (hM _ _).1 | exact (hM _ _).2) (by first | omega | exact (hM _ _).1 | exact (hM _ _).2) (by first | omega | exact (hM _ _).1 | exact (hM _ _).2) (by first | omega | exact (hM _ _).1 | exact (hM _ _).2) (fun c26 => ?_) (fun c26 => ?_)
        · refine je_ps jb_X12_isUnder 1 (pc' := 39) (ls' := [_, _]) (st' := [_]) rfl ?_
          first | exact je_ret jb_X12_isUnder rfl (by rfl) ⟨jv_t ((hOf_iff h a).mpr (by omega)), rfl⟩ | exact je_ret jb_X12_isUnder rfl (by rfl) ⟨jv_f (hOf_f (by omega)), rfl⟩
        · refine je_ps jb_X12_isUnder 2 (pc' := 31) (ls' := [_, _]) (st' := [_, _]) rfl ?_
          refine je_icmpne jb_X12_isUnder rfl (t := 38) rfl (pc' := 34) rfl (by first | omega | exact (hM _ _).1 | exact (hM _ _).2) (by first | omega | exact (hM _ _).1 | exact (hM _ _).2) (by first | omega | exact (hM _ _).1 | exact (hM _ _).2) (by first | omega | exact (hM _ _).1 | exact (hM _ _).2) (fun c31 => ?_) (fun c31 => ?_)
          · refine je_ps jb_X12_isUnder 1 (pc' := 39) (ls' := [_, _]) (st' := [_]) rfl ?_
            first | exact je_ret jb_X12_isUnder rfl (by rfl) ⟨jv_t ((hOf_iff h a).mpr (by omega)), rfl⟩ | exact je_ret jb_X12_isUnder rfl (by rfl) ⟨jv_f (hOf_f (by omega)), rfl⟩
          · refine je_ps jb_X12_isUnder 2 (pc' := 39) (ls' := [_, _]) (st' := [_]) rfl ?_
            first | exact je_ret jb_X12_isUnder rfl (by rfl) ⟨jv_t ((hOf_iff h a).mpr (by omega)), rfl⟩ | exact je_ret jb_X12_isUnder rfl (by rfl) ⟨jv_f (hOf_f (by omega)), rfl⟩
      · refine je_ps jb_X12_isUnder 2 (pc' := 16) (ls' := [_, _]) (st' := [_, _]) rfl ?_
        refine je_icmpeq jb_X12_isUnder rfl (t := 34) rfl (pc' := 19) rfl (by first | omega | exact (hM _ _).1 | exact (hM _ _).2) (by first | omega | exact (hM _ _).1 | exact (hM _ _).2) (by first | omega | exact (hM _ _).1 | exact (hM _ _).2) (by first | omega | exact (hM _ _).1 | exact (hM _ _).2) (fun c16 => ?_) (fun c16 => ?_)
        · refine je_ps jb_X12_isUnder 2 (pc' := 39) (ls' := [_, _]) (st' := [_]) rfl ?_
          first | exact je_ret jb_X12_isUnder rfl (by rfl) ⟨jv_t ((hOf_iff h a).mpr (by omega)), rfl⟩ | exact je_ret jb_X12_isUnder rfl (by rfl) ⟨jv_f (hOf_f (by omega)), rfl⟩
        · refine je_ps jb_X12_isUnder 2 (pc' := 21) (ls' := [_, _]) (st' := [_, _]) rfl ?_
          refine je_icmpeq jb_X12_isUnder rfl (t := 34) rfl (pc' := 24) rfl (by first | omega | exact (hM _ _).1 | exact (hM _ _).2) (by first | omega | exact (hM _ _).1 | exact (hM _ _).2) (by first | omega | exact (hM _ _).1 | exact (hM _ _).2) (by first | omega | exact (hM _ _).1 | exact (hM _ _).2) (fun c21 => ?_) (fun c21 => ?_)
          · refine je_ps jb_X12_isUnder 2 (pc' := 39) (ls' := [_, _]) (st' := [_]) rfl ?_
            first | exact je_ret jb_X12_isUnder rfl (by rfl) ⟨jv_t ((hOf_iff h a).mpr (by omega)), rfl⟩ | exact je_ret jb_X12_isUnder rfl (by rfl) ⟨jv_f (hOf_f (by omega)), rfl⟩
          · refine je_ps jb_X12_isUnder 2 (pc' := 26) (ls' := [_, _]) (st' := [_, _]) rfl ?_
            refine je_icmpne jb_X12_isUnder rfl (t := 38) rfl (pc' := 29) rfl (by first | omega | exact (hM _ _).1 | exact (hM _ _).2) (by first | omega | exact (hM _ _).1 | exact (hM _ _).2) (by first | omega | exact (hM _ _).1 | exact (hM _ _).2) (by first | omega | exact (hM _ _).1 | exact (hM _ _).2) (fun c26 => ?_) (fun c26 => ?_)
            · refine je_ps jb_X12_isUnder 1 (pc' := 39) (ls' := [_, _]) (st' := [_]) rfl ?_
              first | exact je_ret jb_X12_isUnder rfl (by rfl) ⟨jv_t ((hOf_iff h a).mpr (by omega)), rfl⟩ | exact je_ret jb_X12_isUnder rfl (by rfl) ⟨jv_f (hOf_f (by omega)), rfl⟩
            · refine je_ps jb_X12_isUnder 2 (pc' := 31) (ls' := [_, _]) (st' := [_, _]) rfl ?_
              refine je_icmpne jb_X12_isUnder rfl (t := 38) rfl (pc' := 34) rfl (by first | omega | exact (hM _ _).1 | exact (hM _ _).2) (by first | omega | exact (hM _ _).1 | exact (hM _ _).2) (by first | omega | exact (hM _ _).1 | exact (hM _ _).2) (by first | omega | exact (hM _ _).1 | exact (hM _ _).2) (fun c31 => ?_) (fun c31 => ?_)
              · refine je_ps jb_X12_isUnder 1 (pc' := 39) (ls' := [_, _]) (st' := [_]) rfl ?_
                first | exact je_ret jb_X12_isUnder rfl (by rfl) ⟨jv_t ((hOf_iff h a).mpr (by omega)), rfl⟩ | exact je_ret jb_X12_isUnder rfl (by rfl) ⟨jv_f (hOf_f (by omega)), rfl⟩
              · refine je_ps jb_X12_isUnder 2 (pc' := 39) (ls' := [_, _]) (st' := [_]) rfl ?_
                first | exact je_ret jb_X12_isUnder rfl (by rfl) ⟨jv_t ((hOf_iff h a).mpr (by omega)), rfl⟩ | exact je_ret jb_X12_isUnder rfl (by rfl) ⟨jv_f (hOf_f (by omega)), rfl⟩
theorem iG.he {A : aT} (J : iG A m) {x : Int} (h : 0 ≤ x ∧ x < (aHc A : Int)) : m 49 x = (aH A x.toNat).1 ∧ m 50 x = (aH A x.toNat).2 := by
  have := J.2.2.2.2.1 x.toNat (by omega)
  rwa [show ((x.toNat : Nat) : Int) = x by omega] at this
theorem iG.helper {A : aT} (J : iG A m) (q : Int × Int) : iG (sHe A q) (jU (jU (jU m 49 (ju (m 49) (aHc A : Int) q.1)) 50 (ju (m 50) (aHc A : Int) q.2)) 45 (ju (m 45) 8 ((aHc A : Int) + 1))) := by
  have K : iG A (jU (jU m 49 (ju (m 49) (aHc A : Int) q.1)) 50 (ju (m 50) (aHc A : Int) q.2)) := by
    have hne : ∀ b, b ≠ 49 → b ≠ 50 → jU (jU m 49 (ju (m 49) (aHc A : Int) q.1)) 50 (ju (m 50) (aHc A : Int) q.2) b = m b := fun b h1 h2 => by rw [jU_ne h2, jU_ne h1]
    obtain ⟨j1, j2, j3, j4, j5, j6, j7, j8, j9, j10⟩ := J
    refine ⟨?_, ?_, ?_, ?_, ?_, ?_, ?_, ?_, ?_, fun h => ?_⟩
    · unfold gSt at *; rw [hne 45 (by decide) (by decide)]; exact j1
    · rw [hne 45 (by decide) (by decide)]; exact j2
    · intro i hi
      have g := j3 i hi
      unfold gR at *; rw [hne 47 (by decide) (by decide), hne 48 (by decide) (by decide)]; exact g
    · rw [hne 45 (by decide) (by decide)]; exact j4
    · intro i hi
      rw [jU_ne (by decide), jU_same, jU_same, ju_ne (by omega), ju_ne (by omega)]
      exact j5 i hi
    · rw [hne 45 (by decide) (by decide), hne 55 (by decide) (by decide)]; exact j6
    · rw [hne 56 (by decide) (by decide), hne 57 (by decide) (by decide)]; exact j7
    · rw [hne 46 (by decide) (by decide)]; exact j8
    · rw [hne 45 (by decide) (by decide)]; exact j9
    · have k := j10 h
      unfold gK at *
      rw [hne 45 (by decide) (by decide), hne 58 (by decide) (by decide), hne 59 (by decide) (by decide), hne 60 (by decide) (by decide), hne 61 (by decide) (by decide)]
      exact k
  have e : ju (m 45) 8 ((aHc A : Int) + 1) = ju (jU (jU m 49 (ju (m 49) (aHc A : Int) q.1)) 50 (ju (m 50) (aHc A : Int) q.2) 45) 8 ((aHc A : Int) + 1) := by rw [jU_ne (by decide), jU_ne (by decide)]
  rw [e]
  refine K.f43 (A' := sHe A q) rfl ?_ J.1.2 ?_ K.2.2.1 (ju_same _ _ _) (fun i hi => ?_) (fun j q1 q2 q3 q4 q5 q6 => ju_ne q6)
  · rw [ju_ne (by decide), ju_ne (by decide), ju_ne (by decide), ju_ne (by decide)]; exact K.1.1
  · rw [ju_ne (by decide)]; exact K.c
  · have hi : i < aHc A + 1 := hi
    show _ = (if i = aHc A then q else A.1.2.2.2 i).1 ∧ _ = (if i = aHc A then q else A.1.2.2.2 i).2
    by_cases c : i = aHc A
    · subst c
      rw [if_pos rfl, jU_ne (by decide), jU_same, jU_same, ju_same, ju_same]
      exact ⟨rfl, rfl⟩
    · rw [if_neg c]
      exact K.2.2.2.2.1 i (by omega)
theorem gl_helper {A : aT} (O : aOk A) (J : iG A m) {x y : Int} (hx : -2147483648 ≤ x ∧ x ≤ 2147483647) (hy : -2147483648 ≤ y ∧ y ≤ 2147483647) : jq sc 4 jm_X12_helper [.ref 45, .int (jI x), .int (jI y)] (jh m r T) (gQ (aHelper A x y) m r T) := by
  have c6 := O.c6
  have fs := O.fs
  have jc := J.c
  have h4 := O.h4
  have jh8 := J.hc
  refine je_in jb_X12_helper rfl (ls := [_, _, _]) rfl ?_
  refine je_ps jb_X12_helper 3 (pc' := 3) (ls' := [_, _, _]) (st' := [_, _, _]) rfl ?_
  refine je_csP' jb_X12_helper rfl (pc' := 6) rfl (by rfl) (by first | decide | exact Nat.ble_eq_true_of_le (by omega)) (c_X12_isIn (by omega) (by omega) (by omega)) (st' := [_]) rfl ?_
  refine je_ifneb jb_X12_helper rfl (t := 16) rfl (pc' := 9) rfl (fun c6 => ?_) (fun c6 => ?_)
  · have hb := of_decide_eq_true c6
    refine je_ps jb_X12_helper 1 (pc' := 17) (ls' := [_, _, _]) (st' := [_]) rfl ?_
    refine je_ifge jb_X12_helper rfl (t := 27) rfl (pc' := 20) rfl (by first | omega | exact (hM _ _).1 | exact (hM _ _).2) (by first | omega | exact (hM _ _).1 | exact (hM _ _).2) (fun c17 => ?_) (fun c17 => ?_)
    · refine je_ps jb_X12_helper 2 (pc' := 30) (ls' := [_, _, _]) (st' := [_, _]) rfl ?_
      refine je_icmpgt jb_X12_helper rfl (t := 41) rfl (pc' := 33) rfl (by first | omega | exact (hM _ _).1 | exact (hM _ _).2) (by first | omega | exact (hM _ _).1 | exact (hM _ _).2) (by first | omega | exact (hM _ _).1 | exact (hM _ _).2) (by first | omega | exact (hM _ _).1 | exact (hM _ _).2) (fun c30 => ?_) (fun c30 => ?_)
      · refine je_ps jb_X12_helper 2 (pc' := 44) (ls' := [_, _, _]) (st' := [_, _]) rfl ?_
        refine je_cvP' jb_X12_helper rfl (pc' := 47) rfl (jh_at (a := 45) rfl) (by rfl) (by first | decide | exact Nat.ble_eq_true_of_le (by omega)) (c_X12_refused (by omega)) (st' := [_]) rfl ?_
        rw [show aHelper A x y = aRef A (-6) from by unfold aHelper; rw [if_neg (not_not_intro hb), if_neg (by omega), if_pos (by omega)]]
        exact je_ret jb_X12_helper rfl (by rfl) ⟨_, rfl, rfl, J.ref (by omega), (kC.rfl' m).u (by decide) _⟩
      · refine je_ps jb_X12_helper 1 (pc' := 34) (ls' := [_, _, _]) (st' := [_]) rfl ?_
        refine je_get jb_X12_helper rfl (pc' := 37) rfl (jh_at (a := 45) rfl) (by rfl) (by rfl) ?_
        refine je_ps jb_X12_helper 1 (pc' := 38) (ls' := [_, _, _]) (st' := [_, _]) rfl ?_
        refine je_icmpne jb_X12_helper rfl (t := 48) rfl (pc' := 41) rfl (by first | omega | exact (hM _ _).1 | exact (hM _ _).2) (by first | omega | exact (hM _ _).1 | exact (hM _ _).2) (by first | omega | exact (hM _ _).1 | exact (hM _ _).2) (by first | omega | exact (hM _ _).1 | exact (hM _ _).2) (fun c38 => ?_) (fun c38 => ?_)
        · refine je_ps jb_X12_helper 1 (pc' := 49) (ls' := [_, _, _]) (st' := [_]) rfl ?_
          refine je_get jb_X12_helper rfl (pc' := 52) rfl (jh_at (a := 45) rfl) (by rfl) (by rfl) ?_
          refine je_ps jb_X12_helper 1 (pc' := 53) (ls' := [_, _, _]) (st' := [_, _]) rfl ?_
          refine je_get jb_X12_helper rfl (pc' := 56) rfl (jh_at (a := 45) rfl) (by rfl) (by rfl) ?_
          rw [jh8]
          refine je_ps jb_X12_helper 1 (pc' := 57) (ls' := [_, _, _]) (st' := [_, _, _]) rfl ?_
          refine je_iastI jb_X12_helper rfl (pc' := 58) rfl (n := 4) (a := 49) rfl (fun _ => rfl) (by first | omega | exact (hM _ _).1 | exact (hM _ _).2) (by first | omega | exact (hM _ _).1 | exact (hM _ _).2) (by first | omega | exact (hM _ _).1 | exact (hM _ _).2) ?_
          refine je_ps jb_X12_helper 1 (pc' := 59) (ls' := [_, _, _]) (st' := [_]) rfl ?_
          refine je_get jb_X12_helper rfl (pc' := 62) rfl (jh_at (a := 45) rfl) (by rfl) (by rfl) ?_
          refine je_ps jb_X12_helper 1 (pc' := 63) (ls' := [_, _, _]) (st' := [_, _]) rfl ?_
          refine je_get jb_X12_helper rfl (pc' := 66) rfl (jh_at (a := 45) rfl) (by rfl) (by rfl) ?_
          rw [jU_ne (by decide), jh8]
          refine je_ps jb_X12_helper 1 (pc' := 67) (ls' := [_, _, _]) (st' := [_, _, _]) rfl ?_
          refine je_iastI jb_X12_helper rfl (pc' := 68) rfl (n := 4) (a := 50) rfl (fun _ => rfl) (by first | omega | exact (hM _ _).1 | exact (hM _ _).2) (by first | omega | exact (hM _ _).1 | exact (hM _ _).2) (by first | omega | exact (hM _ _).1 | exact (hM _ _).2) ?_
          refine je_ps jb_X12_helper 2 (pc' := 70) (ls' := [_, _, _]) (st' := [_, _]) rfl ?_
          refine je_get jb_X12_helper rfl (pc' := 73) rfl (jh_at (a := 45) rfl) (by rfl) (by rfl) ?_
          rw [jU_ne (by decide), jU_ne (by decide), jh8]
          refine je_ps jb_X12_helper 1 (pc' := 74) (ls' := [_, _, _]) (st' := [_, _, _]) rfl ?_
          refine je_iadd jb_X12_helper rfl (pc' := 75) rfl ?_
          refine je_putI jb_X12_helper rfl (pc' := 78) rfl (j := 8) (a := 45) rfl (by rfl) (by rfl) (by rfl) (by rfl) ?_
          refine je_ps jb_X12_helper 1 (pc' := 79) (ls' := [_, _, _]) (st' := [_]) rfl ?_
          refine je_get jb_X12_helper rfl (pc' := 82) rfl (jh_at (a := 45) rfl) (by rfl) (by rfl) ?_
          refine je_ps jb_X12_helper 1 (pc' := 83) (ls' := [_, _, _]) (st' := [_, _]) rfl ?_
          refine je_isub jb_X12_helper rfl (pc' := 84) rfl ?_
          rw [jU_same, ju_same]
          rw [show aHelper A x y = ((aHc A : Int), sHe A (x, y)) from by unfold aHelper; rw [if_neg (not_not_intro hb), if_neg (by omega), if_neg (by omega)]]
          rw [show (aHc A : Int) + 1 - 1 = (aHc A : Int) by omega, jU_ne (b := 50) (a := 49) (by decide), jU_ne (b := 45) (a := 50) (by decide), jU_ne (b := 45) (a := 49) (by decide)]
          exact je_ret jb_X12_helper rfl (by rfl) ⟨_, rfl, rfl, J.helper (x, y), (((kC.rfl' m).u (by decide) _).u (by decide) _).u (by decide) _⟩
        · refine je_ps jb_X12_helper 2 (pc' := 44) (ls' := [_, _, _]) (st' := [_, _]) rfl ?_
          refine je_cvP' jb_X12_helper rfl (pc' := 47) rfl (jh_at (a := 45) rfl) (by rfl) (by first | decide | exact Nat.ble_eq_true_of_le (by omega)) (c_X12_refused (by omega)) (st' := [_]) rfl ?_
          rw [show aHelper A x y = aRef A (-6) from by unfold aHelper; rw [if_neg (not_not_intro hb), if_neg (by omega), if_pos (by omega)]]
          exact je_ret jb_X12_helper rfl (by rfl) ⟨_, rfl, rfl, J.ref (by omega), (kC.rfl' m).u (by decide) _⟩
    · refine je_ps jb_X12_helper 2 (pc' := 23) (ls' := [_, _, _]) (st' := [_, _]) rfl ?_
      refine je_cvP' jb_X12_helper rfl (pc' := 26) rfl (jh_at (a := 45) rfl) (by rfl) (by first | decide | exact Nat.ble_eq_true_of_le (by omega)) (c_X12_refused (by omega)) (st' := [_]) rfl ?_
      rw [show aHelper A x y = aRef A (-4) from by unfold aHelper; rw [if_neg (not_not_intro hb), if_pos (by omega)]]
      exact je_ret jb_X12_helper rfl (by rfl) ⟨_, rfl, rfl, J.ref (by omega), (kC.rfl' m).u (by decide) _⟩
  · refine je_ps jb_X12_helper 2 (pc' := 12) (ls' := [_, _, _]) (st' := [_, _]) rfl ?_
    refine je_cvP' jb_X12_helper rfl (pc' := 15) rfl (jh_at (a := 45) rfl) (by rfl) (by first | decide | exact Nat.ble_eq_true_of_le (by omega)) (c_X12_refused (by omega)) (st' := [_]) rfl ?_
    rw [show aHelper A x y = aRef A (-2) from by unfold aHelper; rw [if_pos (of_decide_eq_false c6)]]
    exact je_ret jb_X12_helper rfl (by rfl) ⟨_, rfl, rfl, J.ref (by omega), (kC.rfl' m).u (by decide) _⟩
theorem gl_helps {A : aT} (O : aOk A) (J : iG A m) {x y : Int} (hx : -2147483648 ≤ x ∧ x ≤ 2147483647) (hy : -2147483648 ≤ y ∧ y ≤ 2147483647) : jq sc 4 jm_X12_helps [.ref 45, .int (jI x), .int (jI y)] (jh m r T) (gQ (aHelps A x y) m r T) := by
  have c6 := O.c6
  have fs := O.fs
  have jc := J.c
  have h4 := O.h4
  refine je_in jb_X12_helps rfl (ls := [_, _, _]) rfl ?_
  refine je_ps jb_X12_helps 2 (pc' := 2) (ls' := [_, _, _]) (st' := [_, _]) rfl ?_
  refine je_cvP' jb_X12_helps rfl (pc' := 5) rfl (jh_at (a := 45) rfl) (by rfl) (by first | decide | exact Nat.ble_eq_true_of_le (by omega)) (k_gisHelper J.hc (by have := O.h4; omega) hx) (st' := [_]) rfl ?_
  refine je_ifneb jb_X12_helps rfl (t := 14) rfl (pc' := 8) rfl (fun c5 => ?_) (fun c5 => ?_)
  · have hu := of_decide_eq_true c5
    have ho := O.ho (i := x.toNat) (by omega)
    obtain ⟨e47, e48⟩ := J.he hu
    refine je_ps jb_X12_helps 1 (pc' := 15) (ls' := [_, _, _]) (st' := [_]) rfl ?_
    refine je_swc fun y15 ey15 => ?_
    rcases (by omega : y15 = 0 ∨ y15 = 1 ∨ y15 = 2 ∨ y15 = 3 ∨ (y15 < 0 ∨ 3 < y15)) with c15 | c15 | c15 | c15 | c15
    · rw [c15]
      refine je_sw jb_X12_helps rfl (t := 44) (st' := []) rfl ?_
      refine je_ps jb_X12_helps 1 (pc' := 45) (ls' := [_, _, _]) (st' := [_]) rfl ?_
      refine je_get jb_X12_helps rfl (pc' := 48) rfl (jh_at (a := 45) rfl) (by rfl) (by rfl) ?_
      refine je_ps jb_X12_helps 1 (pc' := 49) (ls' := [_, _, _]) (st' := [_, _]) rfl ?_
      refine je_iald jb_X12_helps rfl (pc' := 50) rfl (n := 4) (f := _) (jh_at (a := 49) rfl) (by first | omega | exact (hM _ _).1 | exact (hM _ _).2) (by first | omega | exact (hM _ _).1 | exact (hM _ _).2) (by first | omega | exact (hM _ _).1 | exact (hM _ _).2) ?_
      rw [e47]
      rw [show aHelps A x y = (aHelpsV (aH A x.toNat) y, A) from by unfold aHelps; rw [if_pos hu, if_pos (by omega)]]
      exact je_ret jb_X12_helps rfl (by rfl) ⟨_, by unfold aHelpsV; rw [if_pos (by omega)], rfl, J, kC.rfl' m⟩
    · rw [c15]
      refine je_sw jb_X12_helps rfl (t := 51) (st' := []) rfl ?_
      refine je_ps jb_X12_helps 1 (pc' := 52) (ls' := [_, _, _]) (st' := [_]) rfl ?_
      refine je_get jb_X12_helps rfl (pc' := 55) rfl (jh_at (a := 45) rfl) (by rfl) (by rfl) ?_
      refine je_ps jb_X12_helps 1 (pc' := 56) (ls' := [_, _, _]) (st' := [_, _]) rfl ?_
      refine je_iald jb_X12_helps rfl (pc' := 57) rfl (n := 4) (f := _) (jh_at (a := 50) rfl) (by first | omega | exact (hM _ _).1 | exact (hM _ _).2) (by first | omega | exact (hM _ _).1 | exact (hM _ _).2) (by first | omega | exact (hM _ _).1 | exact (hM _ _).2) ?_
      rw [e48]
      rw [show aHelps A x y = (aHelpsV (aH A x.toNat) y, A) from by unfold aHelps; rw [if_pos hu, if_pos (by omega)]]
      exact je_ret jb_X12_helps rfl (by rfl) ⟨_, by unfold aHelpsV; rw [if_neg (by omega), if_pos (by omega)], rfl, J, kC.rfl' m⟩
    · rw [c15]
      refine je_sw jb_X12_helps rfl (t := 58) (st' := []) rfl ?_
      refine je_ps jb_X12_helps 1 (pc' := 59) (ls' := [_, _, _]) (st' := [_]) rfl ?_
      refine je_get jb_X12_helps rfl (pc' := 62) rfl (jh_at (a := 45) rfl) (by rfl) (by rfl) ?_
      refine je_ps jb_X12_helps 1 (pc' := 63) (ls' := [_, _, _]) (st' := [_, _]) rfl ?_
      refine je_iald jb_X12_helps rfl (pc' := 64) rfl (n := 4) (f := _) (jh_at (a := 49) rfl) (by first | omega | exact (hM _ _).1 | exact (hM _ _).2) (by first | omega | exact (hM _ _).1 | exact (hM _ _).2) (by first | omega | exact (hM _ _).1 | exact (hM _ _).2) ?_
      rw [e47]
      refine je_ps jb_X12_helps 1 (pc' := 65) (ls' := [_, _, _]) (st' := [_, _]) rfl ?_
      refine je_get jb_X12_helps rfl (pc' := 68) rfl (jh_at (a := 45) rfl) (by rfl) (by rfl) ?_
      refine je_ps jb_X12_helps 1 (pc' := 69) (ls' := [_, _, _]) (st' := [_, _, _]) rfl ?_
      refine je_iald jb_X12_helps rfl (pc' := 70) rfl (n := 4) (f := _) (jh_at (a := 50) rfl) (by first | omega | exact (hM _ _).1 | exact (hM _ _).2) (by first | omega | exact (hM _ _).1 | exact (hM _ _).2) (by first | omega | exact (hM _ _).1 | exact (hM _ _).2) ?_
      rw [e48]
      refine je_csP' jb_X12_helps rfl (pc' := 73) rfl (by rfl) (by first | decide | exact Nat.ble_eq_true_of_le (by omega)) (c_X12_lettersOf ho.1 ho.2) (st' := [_]) rfl ?_
      rw [show aHelps A x y = (aHelpsV (aH A x.toNat) y, A) from by unfold aHelps; rw [if_pos hu, if_pos (by omega)]]
      exact je_ret jb_X12_helps rfl (by rfl) ⟨_, by unfold aHelpsV; rw [if_neg (by omega), if_neg (by omega), if_pos (by omega)], rfl, J, kC.rfl' m⟩
    · rw [c15]
      refine je_sw jb_X12_helps rfl (t := 74) (st' := []) rfl ?_
      refine je_ps jb_X12_helps 1 (pc' := 75) (ls' := [_, _, _]) (st' := [_]) rfl ?_
      refine je_get jb_X12_helps rfl (pc' := 78) rfl (jh_at (a := 45) rfl) (by rfl) (by rfl) ?_
      refine je_ps jb_X12_helps 1 (pc' := 79) (ls' := [_, _, _]) (st' := [_, _]) rfl ?_
      refine je_iald jb_X12_helps rfl (pc' := 80) rfl (n := 4) (f := _) (jh_at (a := 49) rfl) (by first | omega | exact (hM _ _).1 | exact (hM _ _).2) (by first | omega | exact (hM _ _).1 | exact (hM _ _).2) (by first | omega | exact (hM _ _).1 | exact (hM _ _).2) ?_
      rw [e47]
      refine je_ps jb_X12_helps 1 (pc' := 81) (ls' := [_, _, _]) (st' := [_, _]) rfl ?_
      refine je_get jb_X12_helps rfl (pc' := 84) rfl (jh_at (a := 45) rfl) (by rfl) (by rfl) ?_
      refine je_ps jb_X12_helps 1 (pc' := 85) (ls' := [_, _, _]) (st' := [_, _, _]) rfl ?_
      refine je_iald jb_X12_helps rfl (pc' := 86) rfl (n := 4) (f := _) (jh_at (a := 50) rfl) (by first | omega | exact (hM _ _).1 | exact (hM _ _).2) (by first | omega | exact (hM _ _).1 | exact (hM _ _).2) (by first | omega | exact (hM _ _).1 | exact (hM _ _).2) ?_
      rw [e48]
      refine je_csP' jb_X12_helps rfl (pc' := 89) rfl (by rfl) (by first | decide | exact Nat.ble_eq_true_of_le (by omega)) (c_X12_moveOf ho.1 ho.2) (st' := [_]) rfl ?_
      rw [show aHelps A x y = (aHelpsV (aH A x.toNat) y, A) from by unfold aHelps; rw [if_pos hu, if_pos (by omega)]]
      exact je_ret jb_X12_helps rfl (by rfl) ⟨_, by unfold aHelpsV; rw [if_neg (by omega), if_neg (by omega), if_neg (by omega)], rfl, J, kC.rfl' m⟩
    · refine je_swO jb_X12_helps rfl (t := 90) rfl (by omega) (by omega) c15 ?_
      refine je_ps jb_X12_helps 2 (pc' := 93) (ls' := [_, _, _]) (st' := [_, _]) rfl ?_
      refine je_cvP' jb_X12_helps rfl (pc' := 96) rfl (jh_at (a := 45) rfl) (by rfl) (by first | decide | exact Nat.ble_eq_true_of_le (by omega)) (c_X12_refusedFar (by omega)) (st' := [_]) rfl ?_
      rw [show aHelps A x y = aFar A (-2) from by unfold aHelps; rw [if_pos hu, if_neg (by omega)]]
      exact je_ret jb_X12_helps rfl (by rfl) ⟨_, rfl, rfl, J.ref (by omega), (kC.rfl' m).u (by decide) _⟩
  · refine je_ps jb_X12_helps 2 (pc' := 10) (ls' := [_, _, _]) (st' := [_, _]) rfl ?_
    refine je_cvP' jb_X12_helps rfl (pc' := 13) rfl (jh_at (a := 45) rfl) (by rfl) (by first | decide | exact Nat.ble_eq_true_of_le (by omega)) (c_X12_refusedFar (by omega)) (st' := [_]) rfl ?_
    rw [show aHelps A x y = aFar A (-1) from by unfold aHelps; rw [if_neg (of_decide_eq_false c5)]]
    exact je_ret jb_X12_helps rfl (by rfl) ⟨_, rfl, rfl, J.ref (by omega), (kC.rfl' m).u (by decide) _⟩
theorem gl_taken {A : aT} (O : aOk A) (J : iG A m) {x y : Int} (hx : -2147483648 ≤ x ∧ x ≤ 2147483647) (hy : -2147483648 ≤ y ∧ y ≤ 2147483647) : jq sc 4 jm_X12_taken [.ref 45, .int (jI x), .int (jI y)] (jh m r T) (gQ (aTaken A x y) m r T) := by
  have c6 := O.c6
  have fs := O.fs
  have jc := J.c
  have h4 := O.h4
  refine je_in jb_X12_taken rfl (ls := [_, _, _]) rfl ?_
  refine je_ps jb_X12_taken 2 (pc' := 2) (ls' := [_, _, _]) (st' := [_, _]) rfl ?_
  refine je_cvP' jb_X12_taken rfl (pc' := 5) rfl (jh_at (a := 45) rfl) (by rfl) (by first | decide | exact Nat.ble_eq_true_of_le (by omega)) (k_gisHelper J.hc (by have := O.h4; omega) hx) (st' := [_]) rfl ?_
  refine je_ifneb jb_X12_taken rfl (t := 14) rfl (pc' := 8) rfl (fun c5 => ?_) (fun c5 => ?_)
  · have hu := of_decide_eq_true c5
    have ho := O.ho (i := x.toNat) (by omega)
    obtain ⟨e47, e48⟩ := J.he hu
    refine je_ps jb_X12_taken 3 (pc' := 17) (ls' := [_, _, _]) (st' := [_, _, _]) rfl ?_
    refine je_csP' jb_X12_taken rfl (pc' := 20) rfl (by rfl) (by first | decide | exact Nat.ble_eq_true_of_le (by omega)) (c_X12_isIn (by omega) (by omega) (by omega)) (st' := [_]) rfl ?_
    refine je_ifneb jb_X12_taken rfl (t := 30) rfl (pc' := 23) rfl (fun c20 => ?_) (fun c20 => ?_)
    · refine je_ps jb_X12_taken 1 (pc' := 31) (ls' := [_, _, _]) (st' := [_]) rfl ?_
      refine je_get jb_X12_taken rfl (pc' := 34) rfl (jh_at (a := 45) rfl) (by rfl) (by rfl) ?_
      refine je_ps jb_X12_taken 1 (pc' := 35) (ls' := [_, _, _]) (st' := [_, _]) rfl ?_
      refine je_iald jb_X12_taken rfl (pc' := 36) rfl (n := 4) (f := _) (jh_at (a := 49) rfl) (by first | omega | exact (hM _ _).1 | exact (hM _ _).2) (by first | omega | exact (hM _ _).1 | exact (hM _ _).2) (by first | omega | exact (hM _ _).1 | exact (hM _ _).2) ?_
      rw [e47]
      refine je_ps jb_X12_taken 1 (pc' := 37) (ls' := [_, _, _]) (st' := [_, _]) rfl ?_
      refine je_csP' jb_X12_taken rfl (pc' := 40) rfl (by rfl) (by first | decide | exact Nat.ble_eq_true_of_le (by omega)) (c_X12_isUnder ho.1 (of_decide_eq_true c20)) (st' := [_]) rfl ?_
      refine je_ifeqb jb_X12_taken rfl (t := 52) rfl (pc' := 43) rfl (fun c40 => ?_) (fun c40 => ?_)
      · refine je_ps jb_X12_taken 1 (pc' := 54) (ls' := [_, _, _]) (st' := [_]) rfl ?_
        first | (rw [show aTaken A x y = ((aH A x.toNat).1, A) from by unfold aTaken; rw [if_pos hu, if_pos (of_decide_eq_true c20), if_pos c40]]; exact je_ret jb_X12_taken rfl (by rfl) ⟨_, rfl, rfl, J, (kC.rfl' m)⟩) | (rw [show aTaken A x y = (-16, A) from by unfold aTaken; rw [if_pos hu, if_pos (of_decide_eq_true c20), if_neg (by rw [c40]; decide)]]; exact je_ret jb_X12_taken rfl (by rfl) ⟨_, rfl, rfl, J, (kC.rfl' m)⟩)
      · refine je_ps jb_X12_taken 1 (pc' := 44) (ls' := [_, _, _]) (st' := [_]) rfl ?_
        refine je_get jb_X12_taken rfl (pc' := 47) rfl (jh_at (a := 45) rfl) (by rfl) (by rfl) ?_
        refine je_ps jb_X12_taken 1 (pc' := 48) (ls' := [_, _, _]) (st' := [_, _]) rfl ?_
        refine je_iald jb_X12_taken rfl (pc' := 49) rfl (n := 4) (f := _) (jh_at (a := 49) rfl) (by first | omega | exact (hM _ _).1 | exact (hM _ _).2) (by first | omega | exact (hM _ _).1 | exact (hM _ _).2) (by first | omega | exact (hM _ _).1 | exact (hM _ _).2) ?_
        rw [e47]
        refine je_ps jb_X12_taken 1 (pc' := 54) (ls' := [_, _, _]) (st' := [_]) rfl ?_
        first | (rw [show aTaken A x y = ((aH A x.toNat).1, A) from by unfold aTaken; rw [if_pos hu, if_pos (of_decide_eq_true c20), if_pos c40]]; exact je_ret jb_X12_taken rfl (by rfl) ⟨_, rfl, rfl, J, (kC.rfl' m)⟩) | (rw [show aTaken A x y = (-16, A) from by unfold aTaken; rw [if_pos hu, if_pos (of_decide_eq_true c20), if_neg (by rw [c40]; decide)]]; exact je_ret jb_X12_taken rfl (by rfl) ⟨_, rfl, rfl, J, (kC.rfl' m)⟩)
    · refine je_ps jb_X12_taken 2 (pc' := 26) (ls' := [_, _, _]) (st' := [_, _]) rfl ?_
      refine je_cvP' jb_X12_taken rfl (pc' := 29) rfl (jh_at (a := 45) rfl) (by rfl) (by first | decide | exact Nat.ble_eq_true_of_le (by omega)) (c_X12_refused (by omega)) (st' := [_]) rfl ?_
      rw [show aTaken A x y = aRef A (-2) from by unfold aTaken; rw [if_pos hu, if_neg (of_decide_eq_false c20)]]
      exact je_ret jb_X12_taken rfl (by rfl) ⟨_, rfl, rfl, J.ref (by omega), (kC.rfl' m).u (by decide) _⟩
  · refine je_ps jb_X12_taken 2 (pc' := 10) (ls' := [_, _, _]) (st' := [_, _]) rfl ?_
    refine je_cvP' jb_X12_taken rfl (pc' := 13) rfl (jh_at (a := 45) rfl) (by rfl) (by first | decide | exact Nat.ble_eq_true_of_le (by omega)) (c_X12_refused (by omega)) (st' := [_]) rfl ?_
    rw [show aTaken A x y = aRef A (-1) from by unfold aTaken; rw [if_neg (of_decide_eq_false c5)]]
    exact je_ret jb_X12_taken rfl (by rfl) ⟨_, rfl, rfl, J.ref (by omega), (kC.rfl' m).u (by decide) _⟩
theorem sq_app {s n k : Int} : ∀ (a : List Int) (w : wT) (b : List Int), sq s n k w (a ++ b) = if (sq s n k w a).1 = true then sq s n k (sq s n k w a).2 b else sq s n k w a
  | [], w, b => rfl
  | c :: a, w, b => by
    show (if (fGo s n k w.1 w.2 c).1 = true then sq s n k (fGo s n k w.1 w.2 c).2 (a ++ b) else (false, w)) = (if (if (fGo s n k w.1 w.2 c).1 = true then sq s n k (fGo s n k w.1 w.2 c).2 a else (false, w)).1 = true then sq s n k (if (fGo s n k w.1 w.2 c).1 = true then sq s n k (fGo s n k w.1 w.2 c).2 a else (false, w)).2 b else (if (fGo s n k w.1 w.2 c).1 = true then sq s n k (fGo s n k w.1 w.2 c).2 a else (false, w)))
    by_cases q : (fGo s n k w.1 w.2 c).1 = true
    · simp only [if_pos q]
      exact sq_app a _ b
    · simp only [if_neg q]
      rfl
theorem sq_t {s n k : Int} {w w1 : wT} {a b : List Int} (h : sq s n k w a = (true, w1)) : sq s n k w (a ++ b) = sq s n k w1 b := by
  rw [sq_app, h]
  exact if_pos rfl
theorem sq_f {s n k : Int} {w : wT} {a b : List Int} (h : (sq s n k w a).1 = false) : (sq s n k w (a ++ b)).1 = false := by
  rw [sq_app, if_neg (by rw [h]; decide)]
  exact h
theorem sq1 {s n k c : Int} {w : wT} (h : (fGo s n k w.1 w.2 c).1 = true) : sq s n k w [c] = (true, (fGo s n k w.1 w.2 c).2) := if_pos h
theorem sq1f {s n k c : Int} {w : wT} (h : (fGo s n k w.1 w.2 c).1 = false) : (sq s n k w [c]).1 = false := by
  have : sq s n k w [c] = (false, w) := if_neg (by rw [h]; decide)
  rw [this]
theorem sqR {s n k c : Int} {w : wT} : ∀ t : Nat, (tRep s n k c w t).1 = true → sq s n k w (List.replicate t c) = (true, (tRep s n k c w t).2)
  | 0, _ => rfl
  | t + 1, h => by
    have e : tRep s n k c w (t + 1) = if (tRep s n k c w t).1 = true then fGo s n k (tRep s n k c w t).2.1 (tRep s n k c w t).2.2 c else tRep s n k c w t := rfl
    by_cases q : (tRep s n k c w t).1 = true
    · rw [e, if_pos q] at h ⊢
      rw [List.replicate_succ', sq_t (sqR t q), sq1 h]
    · rw [e, if_neg q] at h
      exact absurd h q
theorem sqRf {s n k c : Int} {w : wT} : ∀ t : Nat, (tRep s n k c w t).1 = false → (sq s n k w (List.replicate t c)).1 = false
  | 0, h => by cases h
  | t + 1, h => by
    have e : tRep s n k c w (t + 1) = if (tRep s n k c w t).1 = true then fGo s n k (tRep s n k c w t).2.1 (tRep s n k c w t).2.2 c else tRep s n k c w t := rfl
    by_cases q : (tRep s n k c w t).1 = true
    · rw [e, if_pos q] at h
      rw [List.replicate_succ', sq_t (sqR t q)]
      exact sq1f h
    · rw [List.replicate_succ']
      exact sq_f (sqRf t (by simpa using q))
theorem k_gdoesTimesI {w s n k e c : Int} {L : Int → Int} (g : gWk m w s n k L e) (hc : 0 ≤ c ∧ c ≤ 3) {y : Int} (hy : 0 ≤ y ∧ y ≤ 1000) : jq sc 4 jm_X12_doesTimes [.ref 45, .int (jI w), .int (jI c), .int (jI y)] (jh m r T) (jP (some (.int (jI (jb (tRep s n k c (L, e) y.toNat).1)))) (jh (gW m w (tRep s n k c (L, e) y.toNat).2.1 (tRep s n k c (L, e) y.toNat).2.2) r T)) := by
  have := k_gdoesTimes (sc := sc) (r := r) (T := T) g hc (t := y.toNat) (by omega)
  rwa [show ((y.toNat : Nat) : Int) = y by omega] at this
def hQ (s n k : Int) (w : Int) (W : wT) (l : List Int) (m : Nat → Int → Int) (r : Nat → Nat → Value) (T : jx_H) : Option Value → jx_H → Prop := fun v σ => ∃ L' e', v = some (.int (jI (jb (sq s n k W l).1))) ∧ σ = jh (gW m w L' e') r T ∧ ((sq s n k W l).1 = true → (sq s n k W l).2 = (L', e'))
theorem k_gisHelped_0 {w s n k e f : Int} {L : Int → Int} (g : gWk m w s n k L e) (hf : 0 ≤ f ∧ f ≤ 9) : jq sc 6 jm_X12_isHelped [.ref 45, .int (jI w), .int (jI 0), .int (jI f)] (jh m r T) (hQ s n k w (L, e) (hSp 0 f) m r T) := by
  have e0 : hSp 0 f = (List.replicate (f + 1).toNat 0) := rfl
  rw [e0]
  have fs := g.1.2
  have q0 := g.2.2.2.2
  refine je_in jb_X12_isHelped rfl (ls := [_, _, _, _]) rfl ?_
  refine je_ps jb_X12_isHelped 1 (pc' := 1) (ls' := [_, _, _, _]) (st' := [_]) rfl ?_
  refine je_swc fun y1 ey1 => ?_
  rcases (by omega : y1 = 0 ∨ y1 = 1 ∨ y1 = 2 ∨ y1 = 3 ∨ y1 = 4 ∨ (y1 < 0 ∨ 4 < y1)) with c1 | c1 | c1 | c1 | c1 | c1
  · rw [c1]
    refine je_sw jb_X12_isHelped rfl (t := 36) (st' := []) rfl ?_
    refine je_ps jb_X12_isHelped 5 (pc' := 41) (ls' := [_, _, _, _]) (st' := [_, _, _, _, _]) rfl ?_
    refine je_iadd jb_X12_isHelped rfl (pc' := 42) rfl ?_
    refine je_cvP' jb_X12_isHelped rfl (pc' := 45) rfl (jh_at (a := 45) rfl) (by rfl) (by first | decide | exact Nat.ble_eq_true_of_le (by omega)) (k_gdoesTimesI g (by omega) (by omega)) (st' := [_]) rfl ?_
    cases cq : (tRep s n k 0 (L, e) (f + 1).toNat).1 with
    | true => exact je_ret jb_X12_isHelped rfl (by rfl) ⟨_, _, by rw [sqR _ cq], rfl, fun _ => by rw [sqR _ cq]⟩
    | false => exact je_ret jb_X12_isHelped rfl (by rfl) ⟨_, _, by rw [sqRf _ cq], rfl, fun h => by rw [sqRf _ cq] at h; cases h⟩
  · rw [c1]
    refine je_sw jb_X12_isHelped rfl (t := 46) (st' := []) rfl ?_
    exfalso; omega
  · rw [c1]
    refine je_sw jb_X12_isHelped rfl (t := 73) (st' := []) rfl ?_
    exfalso; omega
  · rw [c1]
    refine je_sw jb_X12_isHelped rfl (t := 100) (st' := []) rfl ?_
    exfalso; omega
  · rw [c1]
    refine je_sw jb_X12_isHelped rfl (t := 148) (st' := []) rfl ?_
    exfalso; omega
  · refine je_swO jb_X12_isHelped rfl (t := 178) rfl (by omega) (by omega) c1 ?_
    exfalso; omega
theorem k_gisHelped_1 {w s n k e f : Int} {L : Int → Int} (g : gWk m w s n k L e) (hf : 0 ≤ f ∧ f ≤ 9) : jq sc 6 jm_X12_isHelped [.ref 45, .int (jI w), .int (jI 1), .int (jI f)] (jh m r T) (hQ s n k w (L, e) (hSp 1 f) m r T) := by
  have e0 : hSp 1 f = [2] ++ ((List.replicate (f + 1).toNat 0)) := rfl
  rw [e0]
  have fs := g.1.2
  have q0 := g.2.2.2.2
  refine je_in jb_X12_isHelped rfl (ls := [_, _, _, _]) rfl ?_
  refine je_ps jb_X12_isHelped 1 (pc' := 1) (ls' := [_, _, _, _]) (st' := [_]) rfl ?_
  refine je_swc fun y1 ey1 => ?_
  rcases (by omega : y1 = 0 ∨ y1 = 1 ∨ y1 = 2 ∨ y1 = 3 ∨ y1 = 4 ∨ (y1 < 0 ∨ 4 < y1)) with c1 | c1 | c1 | c1 | c1 | c1
  · rw [c1]
    refine je_sw jb_X12_isHelped rfl (t := 36) (st' := []) rfl ?_
    exfalso; omega
  · rw [c1]
    refine je_sw jb_X12_isHelped rfl (t := 46) (st' := []) rfl ?_
    refine je_ps jb_X12_isHelped 3 (pc' := 49) (ls' := [_, _, _, _]) (st' := [_, _, _]) rfl ?_
    refine je_cvP' jb_X12_isHelped rfl (pc' := 52) rfl (jh_at (a := 45) rfl) (by rfl) (by first | decide | exact Nat.ble_eq_true_of_le (by omega)) (k_gdoes g (by omega)) (st' := [_]) rfl ?_
    refine je_ifeqb jb_X12_isHelped rfl (t := 71) rfl (pc' := 55) rfl (fun c52 => ?_) (fun c52 => ?_)
    · refine je_ps jb_X12_isHelped 1 (pc' := 72) (ls' := [_, _, _, _]) (st' := [_]) rfl ?_
      first | ((have hs : sq s n k (L, e) ([2] ++ ((List.replicate (f + 1).toNat 0))) = (true, (tRep s n k 0 ((fGo s n k (L, e).1 (L, e).2 2).2.1, (fGo s n k (L, e).1 (L, e).2 2).2.2) (f + 1).toNat).2) := by rw [sq_t (sq1 (w := (L, e)) c52)]; exact (sqR (w := (fGo s n k (L, e).1 (L, e).2 2).2) _ c64)); rw [gW_W]; exact je_ret jb_X12_isHelped rfl (by rfl) ⟨_, _, by rw [hs]; rfl, rfl, fun _ => by rw [hs]⟩) | ((have hs : (sq s n k (L, e) ([2] ++ ((List.replicate (f + 1).toNat 0)))).1 = false := by exact sq_f (sq1f (w := (L, e)) c52)); exact je_ret jb_X12_isHelped rfl (by rfl) ⟨_, _, by rw [hs]; rfl, rfl, fun h => by rw [hs] at h; cases h⟩) | ((have hs : (sq s n k (L, e) ([2] ++ ((List.replicate (f + 1).toNat 0)))).1 = false := by rw [sq_t (sq1 (w := (L, e)) c52)]; exact (sqRf (w := (fGo s n k (L, e).1 (L, e).2 2).2) _ c64)); rw [gW_W]; exact je_ret jb_X12_isHelped rfl (by rfl) ⟨_, _, by rw [hs]; rfl, rfl, fun h => by rw [hs] at h; cases h⟩)
    · have ok1 := fGo_ok (c := 2) fs q0.1 q0.2
      have g1 := gWk.w (m := m) g.1 g.2.1 ok1.1 ok1.2
      refine je_ps jb_X12_isHelped 5 (pc' := 60) (ls' := [_, _, _, _]) (st' := [_, _, _, _, _]) rfl ?_
      refine je_iadd jb_X12_isHelped rfl (pc' := 61) rfl ?_
      refine je_cvP' jb_X12_isHelped rfl (pc' := 64) rfl (jh_at (a := 45) rfl) (by rfl) (by first | decide | exact Nat.ble_eq_true_of_le (by omega)) (k_gdoesTimesI g1 (by omega) (by omega)) (st' := [_]) rfl ?_
      refine je_ifeqb jb_X12_isHelped rfl (t := 71) rfl (pc' := 67) rfl (fun c64 => ?_) (fun c64 => ?_)
      · refine je_ps jb_X12_isHelped 1 (pc' := 72) (ls' := [_, _, _, _]) (st' := [_]) rfl ?_
        first | ((have hs : sq s n k (L, e) ([2] ++ ((List.replicate (f + 1).toNat 0))) = (true, (tRep s n k 0 ((fGo s n k (L, e).1 (L, e).2 2).2.1, (fGo s n k (L, e).1 (L, e).2 2).2.2) (f + 1).toNat).2) := by rw [sq_t (sq1 (w := (L, e)) c52)]; exact (sqR (w := (fGo s n k (L, e).1 (L, e).2 2).2) _ c64)); rw [gW_W]; exact je_ret jb_X12_isHelped rfl (by rfl) ⟨_, _, by rw [hs]; rfl, rfl, fun _ => by rw [hs]⟩) | ((have hs : (sq s n k (L, e) ([2] ++ ((List.replicate (f + 1).toNat 0)))).1 = false := by exact sq_f (sq1f (w := (L, e)) c52)); exact je_ret jb_X12_isHelped rfl (by rfl) ⟨_, _, by rw [hs]; rfl, rfl, fun h => by rw [hs] at h; cases h⟩) | ((have hs : (sq s n k (L, e) ([2] ++ ((List.replicate (f + 1).toNat 0)))).1 = false := by rw [sq_t (sq1 (w := (L, e)) c52)]; exact (sqRf (w := (fGo s n k (L, e).1 (L, e).2 2).2) _ c64)); rw [gW_W]; exact je_ret jb_X12_isHelped rfl (by rfl) ⟨_, _, by rw [hs]; rfl, rfl, fun h => by rw [hs] at h; cases h⟩)
      · refine je_ps jb_X12_isHelped 2 (pc' := 72) (ls' := [_, _, _, _]) (st' := [_]) rfl ?_
        first | ((have hs : sq s n k (L, e) ([2] ++ ((List.replicate (f + 1).toNat 0))) = (true, (tRep s n k 0 ((fGo s n k (L, e).1 (L, e).2 2).2.1, (fGo s n k (L, e).1 (L, e).2 2).2.2) (f + 1).toNat).2) := by rw [sq_t (sq1 (w := (L, e)) c52)]; exact (sqR (w := (fGo s n k (L, e).1 (L, e).2 2).2) _ c64)); rw [gW_W]; exact je_ret jb_X12_isHelped rfl (by rfl) ⟨_, _, by rw [hs]; rfl, rfl, fun _ => by rw [hs]⟩) | ((have hs : (sq s n k (L, e) ([2] ++ ((List.replicate (f + 1).toNat 0)))).1 = false := by exact sq_f (sq1f (w := (L, e)) c52)); exact je_ret jb_X12_isHelped rfl (by rfl) ⟨_, _, by rw [hs]; rfl, rfl, fun h => by rw [hs] at h; cases h⟩) | ((have hs : (sq s n k (L, e) ([2] ++ ((List.replicate (f + 1).toNat 0)))).1 = false := by rw [sq_t (sq1 (w := (L, e)) c52)]; exact (sqRf (w := (fGo s n k (L, e).1 (L, e).2 2).2) _ c64)); rw [gW_W]; exact je_ret jb_X12_isHelped rfl (by rfl) ⟨_, _, by rw [hs]; rfl, rfl, fun h => by rw [hs] at h; cases h⟩)
  · rw [c1]
    refine je_sw jb_X12_isHelped rfl (t := 73) (st' := []) rfl ?_
    exfalso; omega
  · rw [c1]
    refine je_sw jb_X12_isHelped rfl (t := 100) (st' := []) rfl ?_
    exfalso; omega
  · rw [c1]
    refine je_sw jb_X12_isHelped rfl (t := 148) (st' := []) rfl ?_
    exfalso; omega
  · refine je_swO jb_X12_isHelped rfl (t := 178) rfl (by omega) (by omega) c1 ?_
    exfalso; omega
theorem k_gisHelped_2 {w s n k e f : Int} {L : Int → Int} (g : gWk m w s n k L e) (hf : 0 ≤ f ∧ f ≤ 9) : jq sc 6 jm_X12_isHelped [.ref 45, .int (jI w), .int (jI 2), .int (jI f)] (jh m r T) (hQ s n k w (L, e) (hSp 2 f) m r T) := by
  have e0 : hSp 2 f = (List.replicate (f + 1).toNat 0) ++ ([3]) := rfl
  rw [e0]
  have fs := g.1.2
  have q0 := g.2.2.2.2
  refine je_in jb_X12_isHelped rfl (ls := [_, _, _, _]) rfl ?_
  refine je_ps jb_X12_isHelped 1 (pc' := 1) (ls' := [_, _, _, _]) (st' := [_]) rfl ?_
  refine je_swc fun y1 ey1 => ?_
  rcases (by omega : y1 = 0 ∨ y1 = 1 ∨ y1 = 2 ∨ y1 = 3 ∨ y1 = 4 ∨ (y1 < 0 ∨ 4 < y1)) with c1 | c1 | c1 | c1 | c1 | c1
  · rw [c1]
    refine je_sw jb_X12_isHelped rfl (t := 36) (st' := []) rfl ?_
    exfalso; omega
  · rw [c1]
    refine je_sw jb_X12_isHelped rfl (t := 46) (st' := []) rfl ?_
    exfalso; omega
  · rw [c1]
    refine je_sw jb_X12_isHelped rfl (t := 73) (st' := []) rfl ?_
    refine je_ps jb_X12_isHelped 5 (pc' := 78) (ls' := [_, _, _, _]) (st' := [_, _, _, _, _]) rfl ?_
    refine je_iadd jb_X12_isHelped rfl (pc' := 79) rfl ?_
    refine je_cvP' jb_X12_isHelped rfl (pc' := 82) rfl (jh_at (a := 45) rfl) (by rfl) (by first | decide | exact Nat.ble_eq_true_of_le (by omega)) (k_gdoesTimesI g (by omega) (by omega)) (st' := [_]) rfl ?_
    refine je_ifeqb jb_X12_isHelped rfl (t := 98) rfl (pc' := 85) rfl (fun c82 => ?_) (fun c82 => ?_)
    · refine je_ps jb_X12_isHelped 1 (pc' := 99) (ls' := [_, _, _, _]) (st' := [_]) rfl ?_
      first | ((have hs : sq s n k (L, e) ((List.replicate (f + 1).toNat 0) ++ ([3])) = (true, (fGo s n k (tRep s n k 0 (L, e) (f + 1).toNat).2.1 (tRep s n k 0 (L, e) (f + 1).toNat).2.2 3).2) := by rw [sq_t (sqR (w := (L, e)) _ c82)]; exact (sq1 (w := (tRep s n k 0 (L, e) (f + 1).toNat).2) c91)); rw [gW_W]; exact je_ret jb_X12_isHelped rfl (by rfl) ⟨_, _, by rw [hs]; rfl, rfl, fun _ => by rw [hs]⟩) | ((have hs : (sq s n k (L, e) ((List.replicate (f + 1).toNat 0) ++ ([3]))).1 = false := by exact sq_f (sqRf (w := (L, e)) _ c82)); exact je_ret jb_X12_isHelped rfl (by rfl) ⟨_, _, by rw [hs]; rfl, rfl, fun h => by rw [hs] at h; cases h⟩) | ((have hs : (sq s n k (L, e) ((List.replicate (f + 1).toNat 0) ++ ([3]))).1 = false := by rw [sq_t (sqR (w := (L, e)) _ c82)]; exact (sq1f (w := (tRep s n k 0 (L, e) (f + 1).toNat).2) c91)); rw [gW_W]; exact je_ret jb_X12_isHelped rfl (by rfl) ⟨_, _, by rw [hs]; rfl, rfl, fun h => by rw [hs] at h; cases h⟩)
    · have ok1 := tRep_ok (l := 0) (w := (L, e)) fs q0.1 q0.2 (f + 1).toNat
      have g1 := gWk.w (m := m) g.1 g.2.1 ok1.1 ok1.2
      refine je_ps jb_X12_isHelped 3 (pc' := 88) (ls' := [_, _, _, _]) (st' := [_, _, _]) rfl ?_
      refine je_cvP' jb_X12_isHelped rfl (pc' := 91) rfl (jh_at (a := 45) rfl) (by rfl) (by first | decide | exact Nat.ble_eq_true_of_le (by omega)) (k_gdoes g1 (by omega)) (st' := [_]) rfl ?_
      refine je_ifeqb jb_X12_isHelped rfl (t := 98) rfl (pc' := 94) rfl (fun c91 => ?_) (fun c91 => ?_)
      · refine je_ps jb_X12_isHelped 1 (pc' := 99) (ls' := [_, _, _, _]) (st' := [_]) rfl ?_
        first | ((have hs : sq s n k (L, e) ((List.replicate (f + 1).toNat 0) ++ ([3])) = (true, (fGo s n k (tRep s n k 0 (L, e) (f + 1).toNat).2.1 (tRep s n k 0 (L, e) (f + 1).toNat).2.2 3).2) := by rw [sq_t (sqR (w := (L, e)) _ c82)]; exact (sq1 (w := (tRep s n k 0 (L, e) (f + 1).toNat).2) c91)); rw [gW_W]; exact je_ret jb_X12_isHelped rfl (by rfl) ⟨_, _, by rw [hs]; rfl, rfl, fun _ => by rw [hs]⟩) | ((have hs : (sq s n k (L, e) ((List.replicate (f + 1).toNat 0) ++ ([3]))).1 = false := by exact sq_f (sqRf (w := (L, e)) _ c82)); exact je_ret jb_X12_isHelped rfl (by rfl) ⟨_, _, by rw [hs]; rfl, rfl, fun h => by rw [hs] at h; cases h⟩) | ((have hs : (sq s n k (L, e) ((List.replicate (f + 1).toNat 0) ++ ([3]))).1 = false := by rw [sq_t (sqR (w := (L, e)) _ c82)]; exact (sq1f (w := (tRep s n k 0 (L, e) (f + 1).toNat).2) c91)); rw [gW_W]; exact je_ret jb_X12_isHelped rfl (by rfl) ⟨_, _, by rw [hs]; rfl, rfl, fun h => by rw [hs] at h; cases h⟩)
      · refine je_ps jb_X12_isHelped 2 (pc' := 99) (ls' := [_, _, _, _]) (st' := [_]) rfl ?_
        first | ((have hs : sq s n k (L, e) ((List.replicate (f + 1).toNat 0) ++ ([3])) = (true, (fGo s n k (tRep s n k 0 (L, e) (f + 1).toNat).2.1 (tRep s n k 0 (L, e) (f + 1).toNat).2.2 3).2) := by rw [sq_t (sqR (w := (L, e)) _ c82)]; exact (sq1 (w := (tRep s n k 0 (L, e) (f + 1).toNat).2) c91)); rw [gW_W]; exact je_ret jb_X12_isHelped rfl (by rfl) ⟨_, _, by rw [hs]; rfl, rfl, fun _ => by rw [hs]⟩) | ((have hs : (sq s n k (L, e) ((List.replicate (f + 1).toNat 0) ++ ([3]))).1 = false := by exact sq_f (sqRf (w := (L, e)) _ c82)); exact je_ret jb_X12_isHelped rfl (by rfl) ⟨_, _, by rw [hs]; rfl, rfl, fun h => by rw [hs] at h; cases h⟩) | ((have hs : (sq s n k (L, e) ((List.replicate (f + 1).toNat 0) ++ ([3]))).1 = false := by rw [sq_t (sqR (w := (L, e)) _ c82)]; exact (sq1f (w := (tRep s n k 0 (L, e) (f + 1).toNat).2) c91)); rw [gW_W]; exact je_ret jb_X12_isHelped rfl (by rfl) ⟨_, _, by rw [hs]; rfl, rfl, fun h => by rw [hs] at h; cases h⟩)
  · rw [c1]
    refine je_sw jb_X12_isHelped rfl (t := 100) (st' := []) rfl ?_
    exfalso; omega
  · rw [c1]
    refine je_sw jb_X12_isHelped rfl (t := 148) (st' := []) rfl ?_
    exfalso; omega
  · refine je_swO jb_X12_isHelped rfl (t := 178) rfl (by omega) (by omega) c1 ?_
    exfalso; omega
theorem k_gisHelped_3 {w s n k e f : Int} {L : Int → Int} (g : gWk m w s n k L e) (hf : 0 ≤ f ∧ f ≤ 9) : jq sc 6 jm_X12_isHelped [.ref 45, .int (jI w), .int (jI 3), .int (jI f)] (jh m r T) (hQ s n k w (L, e) (hSp 3 f) m r T) := by
  have e0 : hSp 3 f = [2] ++ ((List.replicate (f + 1).toNat 0) ++ ([2] ++ ((List.replicate (f + 1).toNat 0)))) := by show (2 :: List.replicate (f + 1).toNat 0) ++ (2 :: List.replicate (f + 1).toNat 0) = _; simp
  rw [e0]
  have fs := g.1.2
  have q0 := g.2.2.2.2
  refine je_in jb_X12_isHelped rfl (ls := [_, _, _, _]) rfl ?_
  refine je_ps jb_X12_isHelped 1 (pc' := 1) (ls' := [_, _, _, _]) (st' := [_]) rfl ?_
  refine je_swc fun y1 ey1 => ?_
  rcases (by omega : y1 = 0 ∨ y1 = 1 ∨ y1 = 2 ∨ y1 = 3 ∨ y1 = 4 ∨ (y1 < 0 ∨ 4 < y1)) with c1 | c1 | c1 | c1 | c1 | c1
  · rw [c1]
    refine je_sw jb_X12_isHelped rfl (t := 36) (st' := []) rfl ?_
    exfalso; omega
  · rw [c1]
    refine je_sw jb_X12_isHelped rfl (t := 46) (st' := []) rfl ?_
    exfalso; omega
  · rw [c1]
    refine je_sw jb_X12_isHelped rfl (t := 73) (st' := []) rfl ?_
    exfalso; omega
  · rw [c1]
    refine je_sw jb_X12_isHelped rfl (t := 100) (st' := []) rfl ?_
    refine je_ps jb_X12_isHelped 3 (pc' := 103) (ls' := [_, _, _, _]) (st' := [_, _, _]) rfl ?_
    refine je_cvP' jb_X12_isHelped rfl (pc' := 106) rfl (jh_at (a := 45) rfl) (by rfl) (by first | decide | exact Nat.ble_eq_true_of_le (by omega)) (k_gdoes g (by omega)) (st' := [_]) rfl ?_
    refine je_ifeqb jb_X12_isHelped rfl (t := 146) rfl (pc' := 109) rfl (fun c106 => ?_) (fun c106 => ?_)
    · refine je_ps jb_X12_isHelped 1 (pc' := 147) (ls' := [_, _, _, _]) (st' := [_]) rfl ?_
      first | ((have hs : sq s n k (L, e) ([2] ++ ((List.replicate (f + 1).toNat 0) ++ ([2] ++ ((List.replicate (f + 1).toNat 0))))) = (true, (tRep s n k 0 ((fGo s n k (tRep s n k 0 ((fGo s n k (L, e).1 (L, e).2 2).2.1, (fGo s n k (L, e).1 (L, e).2 2).2.2) (f + 1).toNat).2.1 (tRep s n k 0 ((fGo s n k (L, e).1 (L, e).2 2).2.1, (fGo s n k (L, e).1 (L, e).2 2).2.2) (f + 1).toNat).2.2 2).2.1, (fGo s n k (tRep s n k 0 ((fGo s n k (L, e).1 (L, e).2 2).2.1, (fGo s n k (L, e).1 (L, e).2 2).2.2) (f + 1).toNat).2.1 (tRep s n k 0 ((fGo s n k (L, e).1 (L, e).2 2).2.1, (fGo s n k (L, e).1 (L, e).2 2).2.2) (f + 1).toNat).2.2 2).2.2) (f + 1).toNat).2) := by rw [sq_t (sq1 (w := (L, e)) c106)]; rw [sq_t (sqR (w := (fGo s n k (L, e).1 (L, e).2 2).2) _ c118)]; rw [sq_t (sq1 (w := (tRep s n k 0 ((fGo s n k (L, e).1 (L, e).2 2).2.1, (fGo s n k (L, e).1 (L, e).2 2).2.2) (f + 1).toNat).2) c127)]; exact (sqR (w := (fGo s n k (tRep s n k 0 ((fGo s n k (L, e).1 (L, e).2 2).2.1, (fGo s n k (L, e).1 (L, e).2 2).2.2) (f + 1).toNat).2.1 (tRep s n k 0 ((fGo s n k (L, e).1 (L, e).2 2).2.1, (fGo s n k (L, e).1 (L, e).2 2).2.2) (f + 1).toNat).2.2 2).2) _ c139)); rw [gW_W]; exact je_ret jb_X12_isHelped rfl (by rfl) ⟨_, _, by rw [hs]; rfl, rfl, fun _ => by rw [hs]⟩) | ((have hs : (sq s n k (L, e) ([2] ++ ((List.replicate (f + 1).toNat 0) ++ ([2] ++ ((List.replicate (f + 1).toNat 0)))))).1 = false := by exact sq_f (sq1f (w := (L, e)) c106)); exact je_ret jb_X12_isHelped rfl (by rfl) ⟨_, _, by rw [hs]; rfl, rfl, fun h => by rw [hs] at h; cases h⟩) | ((have hs : (sq s n k (L, e) ([2] ++ ((List.replicate (f + 1).toNat 0) ++ ([2] ++ ((List.replicate (f + 1).toNat 0)))))).1 = false := by rw [sq_t (sq1 (w := (L, e)) c106)]; exact sq_f (sqRf (w := (fGo s n k (L, e).1 (L, e).2 2).2) _ c118)); rw [gW_W]; exact je_ret jb_X12_isHelped rfl (by rfl) ⟨_, _, by rw [hs]; rfl, rfl, fun h => by rw [hs] at h; cases h⟩) | ((have hs : (sq s n k (L, e) ([2] ++ ((List.replicate (f + 1).toNat 0) ++ ([2] ++ ((List.replicate (f + 1).toNat 0)))))).1 = false := by rw [sq_t (sq1 (w := (L, e)) c106)]; rw [sq_t (sqR (w := (fGo s n k (L, e).1 (L, e).2 2).2) _ c118)]; exact sq_f (sq1f (w := (tRep s n k 0 ((fGo s n k (L, e).1 (L, e).2 2).2.1, (fGo s n k (L, e).1 (L, e).2 2).2.2) (f + 1).toNat).2) c127)); rw [gW_W]; exact je_ret jb_X12_isHelped rfl (by rfl) ⟨_, _, by rw [hs]; rfl, rfl, fun h => by rw [hs] at h; cases h⟩) | ((have hs : (sq s n k (L, e) ([2] ++ ((List.replicate (f + 1).toNat 0) ++ ([2] ++ ((List.replicate (f + 1).toNat 0)))))).1 = false := by rw [sq_t (sq1 (w := (L, e)) c106)]; rw [sq_t (sqR (w := (fGo s n k (L, e).1 (L, e).2 2).2) _ c118)]; rw [sq_t (sq1 (w := (tRep s n k 0 ((fGo s n k (L, e).1 (L, e).2 2).2.1, (fGo s n k (L, e).1 (L, e).2 2).2.2) (f + 1).toNat).2) c127)]; exact (sqRf (w := (fGo s n k (tRep s n k 0 ((fGo s n k (L, e).1 (L, e).2 2).2.1, (fGo s n k (L, e).1 (L, e).2 2).2.2) (f + 1).toNat).2.1 (tRep s n k 0 ((fGo s n k (L, e).1 (L, e).2 2).2.1, (fGo s n k (L, e).1 (L, e).2 2).2.2) (f + 1).toNat).2.2 2).2) _ c139)); rw [gW_W]; exact je_ret jb_X12_isHelped rfl (by rfl) ⟨_, _, by rw [hs]; rfl, rfl, fun h => by rw [hs] at h; cases h⟩)
    · have ok1 := fGo_ok (c := 2) fs q0.1 q0.2
      have g1 := gWk.w (m := m) g.1 g.2.1 ok1.1 ok1.2
      refine je_ps jb_X12_isHelped 5 (pc' := 114) (ls' := [_, _, _, _]) (st' := [_, _, _, _, _]) rfl ?_
      refine je_iadd jb_X12_isHelped rfl (pc' := 115) rfl ?_
      refine je_cvP' jb_X12_isHelped rfl (pc' := 118) rfl (jh_at (a := 45) rfl) (by rfl) (by first | decide | exact Nat.ble_eq_true_of_le (by omega)) (k_gdoesTimesI g1 (by omega) (by omega)) (st' := [_]) rfl ?_
      refine je_ifeqb jb_X12_isHelped rfl (t := 146) rfl (pc' := 121) rfl (fun c118 => ?_) (fun c118 => ?_)
      · refine je_ps jb_X12_isHelped 1 (pc' := 147) (ls' := [_, _, _, _]) (st' := [_]) rfl ?_
        first | ((have hs : sq s n k (L, e) ([2] ++ ((List.replicate (f + 1).toNat 0) ++ ([2] ++ ((List.replicate (f + 1).toNat 0))))) = (true, (tRep s n k 0 ((fGo s n k (tRep s n k 0 ((fGo s n k (L, e).1 (L, e).2 2).2.1, (fGo s n k (L, e).1 (L, e).2 2).2.2) (f + 1).toNat).2.1 (tRep s n k 0 ((fGo s n k (L, e).1 (L, e).2 2).2.1, (fGo s n k (L, e).1 (L, e).2 2).2.2) (f + 1).toNat).2.2 2).2.1, (fGo s n k (tRep s n k 0 ((fGo s n k (L, e).1 (L, e).2 2).2.1, (fGo s n k (L, e).1 (L, e).2 2).2.2) (f + 1).toNat).2.1 (tRep s n k 0 ((fGo s n k (L, e).1 (L, e).2 2).2.1, (fGo s n k (L, e).1 (L, e).2 2).2.2) (f + 1).toNat).2.2 2).2.2) (f + 1).toNat).2) := by rw [sq_t (sq1 (w := (L, e)) c106)]; rw [sq_t (sqR (w := (fGo s n k (L, e).1 (L, e).2 2).2) _ c118)]; rw [sq_t (sq1 (w := (tRep s n k 0 ((fGo s n k (L, e).1 (L, e).2 2).2.1, (fGo s n k (L, e).1 (L, e).2 2).2.2) (f + 1).toNat).2) c127)]; exact (sqR (w := (fGo s n k (tRep s n k 0 ((fGo s n k (L, e).1 (L, e).2 2).2.1, (fGo s n k (L, e).1 (L, e).2 2).2.2) (f + 1).toNat).2.1 (tRep s n k 0 ((fGo s n k (L, e).1 (L, e).2 2).2.1, (fGo s n k (L, e).1 (L, e).2 2).2.2) (f + 1).toNat).2.2 2).2) _ c139)); rw [gW_W]; exact je_ret jb_X12_isHelped rfl (by rfl) ⟨_, _, by rw [hs]; rfl, rfl, fun _ => by rw [hs]⟩) | ((have hs : (sq s n k (L, e) ([2] ++ ((List.replicate (f + 1).toNat 0) ++ ([2] ++ ((List.replicate (f + 1).toNat 0)))))).1 = false := by exact sq_f (sq1f (w := (L, e)) c106)); exact je_ret jb_X12_isHelped rfl (by rfl) ⟨_, _, by rw [hs]; rfl, rfl, fun h => by rw [hs] at h; cases h⟩) | ((have hs : (sq s n k (L, e) ([2] ++ ((List.replicate (f + 1).toNat 0) ++ ([2] ++ ((List.replicate (f + 1).toNat 0)))))).1 = false := by rw [sq_t (sq1 (w := (L, e)) c106)]; exact sq_f (sqRf (w := (fGo s n k (L, e).1 (L, e).2 2).2) _ c118)); rw [gW_W]; exact je_ret jb_X12_isHelped rfl (by rfl) ⟨_, _, by rw [hs]; rfl, rfl, fun h => by rw [hs] at h; cases h⟩) | ((have hs : (sq s n k (L, e) ([2] ++ ((List.replicate (f + 1).toNat 0) ++ ([2] ++ ((List.replicate (f + 1).toNat 0)))))).1 = false := by rw [sq_t (sq1 (w := (L, e)) c106)]; rw [sq_t (sqR (w := (fGo s n k (L, e).1 (L, e).2 2).2) _ c118)]; exact sq_f (sq1f (w := (tRep s n k 0 ((fGo s n k (L, e).1 (L, e).2 2).2.1, (fGo s n k (L, e).1 (L, e).2 2).2.2) (f + 1).toNat).2) c127)); rw [gW_W]; exact je_ret jb_X12_isHelped rfl (by rfl) ⟨_, _, by rw [hs]; rfl, rfl, fun h => by rw [hs] at h; cases h⟩) | ((have hs : (sq s n k (L, e) ([2] ++ ((List.replicate (f + 1).toNat 0) ++ ([2] ++ ((List.replicate (f + 1).toNat 0)))))).1 = false := by rw [sq_t (sq1 (w := (L, e)) c106)]; rw [sq_t (sqR (w := (fGo s n k (L, e).1 (L, e).2 2).2) _ c118)]; rw [sq_t (sq1 (w := (tRep s n k 0 ((fGo s n k (L, e).1 (L, e).2 2).2.1, (fGo s n k (L, e).1 (L, e).2 2).2.2) (f + 1).toNat).2) c127)]; exact (sqRf (w := (fGo s n k (tRep s n k 0 ((fGo s n k (L, e).1 (L, e).2 2).2.1, (fGo s n k (L, e).1 (L, e).2 2).2.2) (f + 1).toNat).2.1 (tRep s n k 0 ((fGo s n k (L, e).1 (L, e).2 2).2.1, (fGo s n k (L, e).1 (L, e).2 2).2.2) (f + 1).toNat).2.2 2).2) _ c139)); rw [gW_W]; exact je_ret jb_X12_isHelped rfl (by rfl) ⟨_, _, by rw [hs]; rfl, rfl, fun h => by rw [hs] at h; cases h⟩)
      · rw [gW_W]
        have ok2 := tRep_ok (l := 0) (w := ((fGo s n k (L, e).1 (L, e).2 2).2.1, (fGo s n k (L, e).1 (L, e).2 2).2.2)) fs ok1.1 ok1.2 (f + 1).toNat
        have g2 := gWk.w (m := m) g.1 g.2.1 ok2.1 ok2.2
        refine je_ps jb_X12_isHelped 3 (pc' := 124) (ls' := [_, _, _, _]) (st' := [_, _, _]) rfl ?_
        refine je_cvP' jb_X12_isHelped rfl (pc' := 127) rfl (jh_at (a := 45) rfl) (by rfl) (by first | decide | exact Nat.ble_eq_true_of_le (by omega)) (k_gdoes g2 (by omega)) (st' := [_]) rfl ?_
        refine je_ifeqb jb_X12_isHelped rfl (t := 146) rfl (pc' := 130) rfl (fun c127 => ?_) (fun c127 => ?_)
        · refine je_ps jb_X12_isHelped 1 (pc' := 147) (ls' := [_, _, _, _]) (st' := [_]) rfl ?_
          first | ((have hs : sq s n k (L, e) ([2] ++ ((List.replicate (f + 1).toNat 0) ++ ([2] ++ ((List.replicate (f + 1).toNat 0))))) = (true, (tRep s n k 0 ((fGo s n k (tRep s n k 0 ((fGo s n k (L, e).1 (L, e).2 2).2.1, (fGo s n k (L, e).1 (L, e).2 2).2.2) (f + 1).toNat).2.1 (tRep s n k 0 ((fGo s n k (L, e).1 (L, e).2 2).2.1, (fGo s n k (L, e).1 (L, e).2 2).2.2) (f + 1).toNat).2.2 2).2.1, (fGo s n k (tRep s n k 0 ((fGo s n k (L, e).1 (L, e).2 2).2.1, (fGo s n k (L, e).1 (L, e).2 2).2.2) (f + 1).toNat).2.1 (tRep s n k 0 ((fGo s n k (L, e).1 (L, e).2 2).2.1, (fGo s n k (L, e).1 (L, e).2 2).2.2) (f + 1).toNat).2.2 2).2.2) (f + 1).toNat).2) := by rw [sq_t (sq1 (w := (L, e)) c106)]; rw [sq_t (sqR (w := (fGo s n k (L, e).1 (L, e).2 2).2) _ c118)]; rw [sq_t (sq1 (w := (tRep s n k 0 ((fGo s n k (L, e).1 (L, e).2 2).2.1, (fGo s n k (L, e).1 (L, e).2 2).2.2) (f + 1).toNat).2) c127)]; exact (sqR (w := (fGo s n k (tRep s n k 0 ((fGo s n k (L, e).1 (L, e).2 2).2.1, (fGo s n k (L, e).1 (L, e).2 2).2.2) (f + 1).toNat).2.1 (tRep s n k 0 ((fGo s n k (L, e).1 (L, e).2 2).2.1, (fGo s n k (L, e).1 (L, e).2 2).2.2) (f + 1).toNat).2.2 2).2) _ c139)); rw [gW_W]; exact je_ret jb_X12_isHelped rfl (by rfl) ⟨_, _, by rw [hs]; rfl, rfl, fun _ => by rw [hs]⟩) | ((have hs : (sq s n k (L, e) ([2] ++ ((List.replicate (f + 1).toNat 0) ++ ([2] ++ ((List.replicate (f + 1).toNat 0)))))).1 = false := by exact sq_f (sq1f (w := (L, e)) c106)); exact je_ret jb_X12_isHelped rfl (by rfl) ⟨_, _, by rw [hs]; rfl, rfl, fun h => by rw [hs] at h; cases h⟩) | ((have hs : (sq s n k (L, e) ([2] ++ ((List.replicate (f + 1).toNat 0) ++ ([2] ++ ((List.replicate (f + 1).toNat 0)))))).1 = false := by rw [sq_t (sq1 (w := (L, e)) c106)]; exact sq_f (sqRf (w := (fGo s n k (L, e).1 (L, e).2 2).2) _ c118)); rw [gW_W]; exact je_ret jb_X12_isHelped rfl (by rfl) ⟨_, _, by rw [hs]; rfl, rfl, fun h => by rw [hs] at h; cases h⟩) | ((have hs : (sq s n k (L, e) ([2] ++ ((List.replicate (f + 1).toNat 0) ++ ([2] ++ ((List.replicate (f + 1).toNat 0)))))).1 = false := by rw [sq_t (sq1 (w := (L, e)) c106)]; rw [sq_t (sqR (w := (fGo s n k (L, e).1 (L, e).2 2).2) _ c118)]; exact sq_f (sq1f (w := (tRep s n k 0 ((fGo s n k (L, e).1 (L, e).2 2).2.1, (fGo s n k (L, e).1 (L, e).2 2).2.2) (f + 1).toNat).2) c127)); rw [gW_W]; exact je_ret jb_X12_isHelped rfl (by rfl) ⟨_, _, by rw [hs]; rfl, rfl, fun h => by rw [hs] at h; cases h⟩) | ((have hs : (sq s n k (L, e) ([2] ++ ((List.replicate (f + 1).toNat 0) ++ ([2] ++ ((List.replicate (f + 1).toNat 0)))))).1 = false := by rw [sq_t (sq1 (w := (L, e)) c106)]; rw [sq_t (sqR (w := (fGo s n k (L, e).1 (L, e).2 2).2) _ c118)]; rw [sq_t (sq1 (w := (tRep s n k 0 ((fGo s n k (L, e).1 (L, e).2 2).2.1, (fGo s n k (L, e).1 (L, e).2 2).2.2) (f + 1).toNat).2) c127)]; exact (sqRf (w := (fGo s n k (tRep s n k 0 ((fGo s n k (L, e).1 (L, e).2 2).2.1, (fGo s n k (L, e).1 (L, e).2 2).2.2) (f + 1).toNat).2.1 (tRep s n k 0 ((fGo s n k (L, e).1 (L, e).2 2).2.1, (fGo s n k (L, e).1 (L, e).2 2).2.2) (f + 1).toNat).2.2 2).2) _ c139)); rw [gW_W]; exact je_ret jb_X12_isHelped rfl (by rfl) ⟨_, _, by rw [hs]; rfl, rfl, fun h => by rw [hs] at h; cases h⟩)
        · rw [gW_W]
          have ok3 := fGo_ok (c := 2) fs ok2.1 ok2.2
          have g3 := gWk.w (m := m) g.1 g.2.1 ok3.1 ok3.2
          refine je_ps jb_X12_isHelped 5 (pc' := 135) (ls' := [_, _, _, _]) (st' := [_, _, _, _, _]) rfl ?_
          refine je_iadd jb_X12_isHelped rfl (pc' := 136) rfl ?_
          refine je_cvP' jb_X12_isHelped rfl (pc' := 139) rfl (jh_at (a := 45) rfl) (by rfl) (by first | decide | exact Nat.ble_eq_true_of_le (by omega)) (k_gdoesTimesI g3 (by omega) (by omega)) (st' := [_]) rfl ?_
          refine je_ifeqb jb_X12_isHelped rfl (t := 146) rfl (pc' := 142) rfl (fun c139 => ?_) (fun c139 => ?_)
          · refine je_ps jb_X12_isHelped 1 (pc' := 147) (ls' := [_, _, _, _]) (st' := [_]) rfl ?_
            first | ((have hs : sq s n k (L, e) ([2] ++ ((List.replicate (f + 1).toNat 0) ++ ([2] ++ ((List.replicate (f + 1).toNat 0))))) = (true, (tRep s n k 0 ((fGo s n k (tRep s n k 0 ((fGo s n k (L, e).1 (L, e).2 2).2.1, (fGo s n k (L, e).1 (L, e).2 2).2.2) (f + 1).toNat).2.1 (tRep s n k 0 ((fGo s n k (L, e).1 (L, e).2 2).2.1, (fGo s n k (L, e).1 (L, e).2 2).2.2) (f + 1).toNat).2.2 2).2.1, (fGo s n k (tRep s n k 0 ((fGo s n k (L, e).1 (L, e).2 2).2.1, (fGo s n k (L, e).1 (L, e).2 2).2.2) (f + 1).toNat).2.1 (tRep s n k 0 ((fGo s n k (L, e).1 (L, e).2 2).2.1, (fGo s n k (L, e).1 (L, e).2 2).2.2) (f + 1).toNat).2.2 2).2.2) (f + 1).toNat).2) := by rw [sq_t (sq1 (w := (L, e)) c106)]; rw [sq_t (sqR (w := (fGo s n k (L, e).1 (L, e).2 2).2) _ c118)]; rw [sq_t (sq1 (w := (tRep s n k 0 ((fGo s n k (L, e).1 (L, e).2 2).2.1, (fGo s n k (L, e).1 (L, e).2 2).2.2) (f + 1).toNat).2) c127)]; exact (sqR (w := (fGo s n k (tRep s n k 0 ((fGo s n k (L, e).1 (L, e).2 2).2.1, (fGo s n k (L, e).1 (L, e).2 2).2.2) (f + 1).toNat).2.1 (tRep s n k 0 ((fGo s n k (L, e).1 (L, e).2 2).2.1, (fGo s n k (L, e).1 (L, e).2 2).2.2) (f + 1).toNat).2.2 2).2) _ c139)); rw [gW_W]; exact je_ret jb_X12_isHelped rfl (by rfl) ⟨_, _, by rw [hs]; rfl, rfl, fun _ => by rw [hs]⟩) | ((have hs : (sq s n k (L, e) ([2] ++ ((List.replicate (f + 1).toNat 0) ++ ([2] ++ ((List.replicate (f + 1).toNat 0)))))).1 = false := by exact sq_f (sq1f (w := (L, e)) c106)); exact je_ret jb_X12_isHelped rfl (by rfl) ⟨_, _, by rw [hs]; rfl, rfl, fun h => by rw [hs] at h; cases h⟩) | ((have hs : (sq s n k (L, e) ([2] ++ ((List.replicate (f + 1).toNat 0) ++ ([2] ++ ((List.replicate (f + 1).toNat 0)))))).1 = false := by rw [sq_t (sq1 (w := (L, e)) c106)]; exact sq_f (sqRf (w := (fGo s n k (L, e).1 (L, e).2 2).2) _ c118)); rw [gW_W]; exact je_ret jb_X12_isHelped rfl (by rfl) ⟨_, _, by rw [hs]; rfl, rfl, fun h => by rw [hs] at h; cases h⟩) | ((have hs : (sq s n k (L, e) ([2] ++ ((List.replicate (f + 1).toNat 0) ++ ([2] ++ ((List.replicate (f + 1).toNat 0)))))).1 = false := by rw [sq_t (sq1 (w := (L, e)) c106)]; rw [sq_t (sqR (w := (fGo s n k (L, e).1 (L, e).2 2).2) _ c118)]; exact sq_f (sq1f (w := (tRep s n k 0 ((fGo s n k (L, e).1 (L, e).2 2).2.1, (fGo s n k (L, e).1 (L, e).2 2).2.2) (f + 1).toNat).2) c127)); rw [gW_W]; exact je_ret jb_X12_isHelped rfl (by rfl) ⟨_, _, by rw [hs]; rfl, rfl, fun h => by rw [hs] at h; cases h⟩) | ((have hs : (sq s n k (L, e) ([2] ++ ((List.replicate (f + 1).toNat 0) ++ ([2] ++ ((List.replicate (f + 1).toNat 0)))))).1 = false := by rw [sq_t (sq1 (w := (L, e)) c106)]; rw [sq_t (sqR (w := (fGo s n k (L, e).1 (L, e).2 2).2) _ c118)]; rw [sq_t (sq1 (w := (tRep s n k 0 ((fGo s n k (L, e).1 (L, e).2 2).2.1, (fGo s n k (L, e).1 (L, e).2 2).2.2) (f + 1).toNat).2) c127)]; exact (sqRf (w := (fGo s n k (tRep s n k 0 ((fGo s n k (L, e).1 (L, e).2 2).2.1, (fGo s n k (L, e).1 (L, e).2 2).2.2) (f + 1).toNat).2.1 (tRep s n k 0 ((fGo s n k (L, e).1 (L, e).2 2).2.1, (fGo s n k (L, e).1 (L, e).2 2).2.2) (f + 1).toNat).2.2 2).2) _ c139)); rw [gW_W]; exact je_ret jb_X12_isHelped rfl (by rfl) ⟨_, _, by rw [hs]; rfl, rfl, fun h => by rw [hs] at h; cases h⟩)
          · refine je_ps jb_X12_isHelped 2 (pc' := 147) (ls' := [_, _, _, _]) (st' := [_]) rfl ?_
            first | ((have hs : sq s n k (L, e) ([2] ++ ((List.replicate (f + 1).toNat 0) ++ ([2] ++ ((List.replicate (f + 1).toNat 0))))) = (true, (tRep s n k 0 ((fGo s n k (tRep s n k 0 ((fGo s n k (L, e).1 (L, e).2 2).2.1, (fGo s n k (L, e).1 (L, e).2 2).2.2) (f + 1).toNat).2.1 (tRep s n k 0 ((fGo s n k (L, e).1 (L, e).2 2).2.1, (fGo s n k (L, e).1 (L, e).2 2).2.2) (f + 1).toNat).2.2 2).2.1, (fGo s n k (tRep s n k 0 ((fGo s n k (L, e).1 (L, e).2 2).2.1, (fGo s n k (L, e).1 (L, e).2 2).2.2) (f + 1).toNat).2.1 (tRep s n k 0 ((fGo s n k (L, e).1 (L, e).2 2).2.1, (fGo s n k (L, e).1 (L, e).2 2).2.2) (f + 1).toNat).2.2 2).2.2) (f + 1).toNat).2) := by rw [sq_t (sq1 (w := (L, e)) c106)]; rw [sq_t (sqR (w := (fGo s n k (L, e).1 (L, e).2 2).2) _ c118)]; rw [sq_t (sq1 (w := (tRep s n k 0 ((fGo s n k (L, e).1 (L, e).2 2).2.1, (fGo s n k (L, e).1 (L, e).2 2).2.2) (f + 1).toNat).2) c127)]; exact (sqR (w := (fGo s n k (tRep s n k 0 ((fGo s n k (L, e).1 (L, e).2 2).2.1, (fGo s n k (L, e).1 (L, e).2 2).2.2) (f + 1).toNat).2.1 (tRep s n k 0 ((fGo s n k (L, e).1 (L, e).2 2).2.1, (fGo s n k (L, e).1 (L, e).2 2).2.2) (f + 1).toNat).2.2 2).2) _ c139)); rw [gW_W]; exact je_ret jb_X12_isHelped rfl (by rfl) ⟨_, _, by rw [hs]; rfl, rfl, fun _ => by rw [hs]⟩) | ((have hs : (sq s n k (L, e) ([2] ++ ((List.replicate (f + 1).toNat 0) ++ ([2] ++ ((List.replicate (f + 1).toNat 0)))))).1 = false := by exact sq_f (sq1f (w := (L, e)) c106)); exact je_ret jb_X12_isHelped rfl (by rfl) ⟨_, _, by rw [hs]; rfl, rfl, fun h => by rw [hs] at h; cases h⟩) | ((have hs : (sq s n k (L, e) ([2] ++ ((List.replicate (f + 1).toNat 0) ++ ([2] ++ ((List.replicate (f + 1).toNat 0)))))).1 = false := by rw [sq_t (sq1 (w := (L, e)) c106)]; exact sq_f (sqRf (w := (fGo s n k (L, e).1 (L, e).2 2).2) _ c118)); rw [gW_W]; exact je_ret jb_X12_isHelped rfl (by rfl) ⟨_, _, by rw [hs]; rfl, rfl, fun h => by rw [hs] at h; cases h⟩) | ((have hs : (sq s n k (L, e) ([2] ++ ((List.replicate (f + 1).toNat 0) ++ ([2] ++ ((List.replicate (f + 1).toNat 0)))))).1 = false := by rw [sq_t (sq1 (w := (L, e)) c106)]; rw [sq_t (sqR (w := (fGo s n k (L, e).1 (L, e).2 2).2) _ c118)]; exact sq_f (sq1f (w := (tRep s n k 0 ((fGo s n k (L, e).1 (L, e).2 2).2.1, (fGo s n k (L, e).1 (L, e).2 2).2.2) (f + 1).toNat).2) c127)); rw [gW_W]; exact je_ret jb_X12_isHelped rfl (by rfl) ⟨_, _, by rw [hs]; rfl, rfl, fun h => by rw [hs] at h; cases h⟩) | ((have hs : (sq s n k (L, e) ([2] ++ ((List.replicate (f + 1).toNat 0) ++ ([2] ++ ((List.replicate (f + 1).toNat 0)))))).1 = false := by rw [sq_t (sq1 (w := (L, e)) c106)]; rw [sq_t (sqR (w := (fGo s n k (L, e).1 (L, e).2 2).2) _ c118)]; rw [sq_t (sq1 (w := (tRep s n k 0 ((fGo s n k (L, e).1 (L, e).2 2).2.1, (fGo s n k (L, e).1 (L, e).2 2).2.2) (f + 1).toNat).2) c127)]; exact (sqRf (w := (fGo s n k (tRep s n k 0 ((fGo s n k (L, e).1 (L, e).2 2).2.1, (fGo s n k (L, e).1 (L, e).2 2).2.2) (f + 1).toNat).2.1 (tRep s n k 0 ((fGo s n k (L, e).1 (L, e).2 2).2.1, (fGo s n k (L, e).1 (L, e).2 2).2.2) (f + 1).toNat).2.2 2).2) _ c139)); rw [gW_W]; exact je_ret jb_X12_isHelped rfl (by rfl) ⟨_, _, by rw [hs]; rfl, rfl, fun h => by rw [hs] at h; cases h⟩)
  · rw [c1]
    refine je_sw jb_X12_isHelped rfl (t := 148) (st' := []) rfl ?_
    exfalso; omega
  · refine je_swO jb_X12_isHelped rfl (t := 178) rfl (by omega) (by omega) c1 ?_
    exfalso; omega
theorem k_gisHelped_4 {w s n k e f : Int} {L : Int → Int} (g : gWk m w s n k L e) (hf : 0 ≤ f ∧ f ≤ 9) : jq sc 6 jm_X12_isHelped [.ref 45, .int (jI w), .int (jI 4), .int (jI f)] (jh m r T) (hQ s n k w (L, e) (hSp 4 f) m r T) := by
  have e0 : hSp 4 f = (List.replicate (f + 1).toNat 2) ++ ((List.replicate (f + 1).toNat 0)) := by show List.replicate f.toNat 2 ++ (2 :: List.replicate (f + 1).toNat 0) = _; rw [show (f + 1).toNat = f.toNat + 1 by omega, List.replicate_succ' (n := f.toNat) (a := (2 : Int)), List.append_assoc]; rfl
  rw [e0]
  have fs := g.1.2
  have q0 := g.2.2.2.2
  refine je_in jb_X12_isHelped rfl (ls := [_, _, _, _]) rfl ?_
  refine je_ps jb_X12_isHelped 1 (pc' := 1) (ls' := [_, _, _, _]) (st' := [_]) rfl ?_
  refine je_swc fun y1 ey1 => ?_
  rcases (by omega : y1 = 0 ∨ y1 = 1 ∨ y1 = 2 ∨ y1 = 3 ∨ y1 = 4 ∨ (y1 < 0 ∨ 4 < y1)) with c1 | c1 | c1 | c1 | c1 | c1
  · rw [c1]
    refine je_sw jb_X12_isHelped rfl (t := 36) (st' := []) rfl ?_
    exfalso; omega
  · rw [c1]
    refine je_sw jb_X12_isHelped rfl (t := 46) (st' := []) rfl ?_
    exfalso; omega
  · rw [c1]
    refine je_sw jb_X12_isHelped rfl (t := 73) (st' := []) rfl ?_
    exfalso; omega
  · rw [c1]
    refine je_sw jb_X12_isHelped rfl (t := 100) (st' := []) rfl ?_
    exfalso; omega
  · rw [c1]
    refine je_sw jb_X12_isHelped rfl (t := 148) (st' := []) rfl ?_
    refine je_ps jb_X12_isHelped 5 (pc' := 153) (ls' := [_, _, _, _]) (st' := [_, _, _, _, _]) rfl ?_
    refine je_iadd jb_X12_isHelped rfl (pc' := 154) rfl ?_
    refine je_cvP' jb_X12_isHelped rfl (pc' := 157) rfl (jh_at (a := 45) rfl) (by rfl) (by first | decide | exact Nat.ble_eq_true_of_le (by omega)) (k_gdoesTimesI g (by omega) (by omega)) (st' := [_]) rfl ?_
    refine je_ifeqb jb_X12_isHelped rfl (t := 176) rfl (pc' := 160) rfl (fun c157 => ?_) (fun c157 => ?_)
    · refine je_ps jb_X12_isHelped 1 (pc' := 177) (ls' := [_, _, _, _]) (st' := [_]) rfl ?_
      first | ((have hs : sq s n k (L, e) ((List.replicate (f + 1).toNat 2) ++ ((List.replicate (f + 1).toNat 0))) = (true, (tRep s n k 0 ((tRep s n k 2 (L, e) (f + 1).toNat).2.1, (tRep s n k 2 (L, e) (f + 1).toNat).2.2) (f + 1).toNat).2) := by rw [sq_t (sqR (w := (L, e)) _ c157)]; exact (sqR (w := (tRep s n k 2 (L, e) (f + 1).toNat).2) _ c169)); rw [gW_W]; exact je_ret jb_X12_isHelped rfl (by rfl) ⟨_, _, by rw [hs]; rfl, rfl, fun _ => by rw [hs]⟩) | ((have hs : (sq s n k (L, e) ((List.replicate (f + 1).toNat 2) ++ ((List.replicate (f + 1).toNat 0)))).1 = false := by exact sq_f (sqRf (w := (L, e)) _ c157)); exact je_ret jb_X12_isHelped rfl (by rfl) ⟨_, _, by rw [hs]; rfl, rfl, fun h => by rw [hs] at h; cases h⟩) | ((have hs : (sq s n k (L, e) ((List.replicate (f + 1).toNat 2) ++ ((List.replicate (f + 1).toNat 0)))).1 = false := by rw [sq_t (sqR (w := (L, e)) _ c157)]; exact (sqRf (w := (tRep s n k 2 (L, e) (f + 1).toNat).2) _ c169)); rw [gW_W]; exact je_ret jb_X12_isHelped rfl (by rfl) ⟨_, _, by rw [hs]; rfl, rfl, fun h => by rw [hs] at h; cases h⟩)
    · have ok1 := tRep_ok (l := 2) (w := (L, e)) fs q0.1 q0.2 (f + 1).toNat
      have g1 := gWk.w (m := m) g.1 g.2.1 ok1.1 ok1.2
      refine je_ps jb_X12_isHelped 5 (pc' := 165) (ls' := [_, _, _, _]) (st' := [_, _, _, _, _]) rfl ?_
      refine je_iadd jb_X12_isHelped rfl (pc' := 166) rfl ?_
      refine je_cvP' jb_X12_isHelped rfl (pc' := 169) rfl (jh_at (a := 45) rfl) (by rfl) (by first | decide | exact Nat.ble_eq_true_of_le (by omega)) (k_gdoesTimesI g1 (by omega) (by omega)) (st' := [_]) rfl ?_
      refine je_ifeqb jb_X12_isHelped rfl (t := 176) rfl (pc' := 172) rfl (fun c169 => ?_) (fun c169 => ?_)
      · refine je_ps jb_X12_isHelped 1 (pc' := 177) (ls' := [_, _, _, _]) (st' := [_]) rfl ?_
        first | ((have hs : sq s n k (L, e) ((List.replicate (f + 1).toNat 2) ++ ((List.replicate (f + 1).toNat 0))) = (true, (tRep s n k 0 ((tRep s n k 2 (L, e) (f + 1).toNat).2.1, (tRep s n k 2 (L, e) (f + 1).toNat).2.2) (f + 1).toNat).2) := by rw [sq_t (sqR (w := (L, e)) _ c157)]; exact (sqR (w := (tRep s n k 2 (L, e) (f + 1).toNat).2) _ c169)); rw [gW_W]; exact je_ret jb_X12_isHelped rfl (by rfl) ⟨_, _, by rw [hs]; rfl, rfl, fun _ => by rw [hs]⟩) | ((have hs : (sq s n k (L, e) ((List.replicate (f + 1).toNat 2) ++ ((List.replicate (f + 1).toNat 0)))).1 = false := by exact sq_f (sqRf (w := (L, e)) _ c157)); exact je_ret jb_X12_isHelped rfl (by rfl) ⟨_, _, by rw [hs]; rfl, rfl, fun h => by rw [hs] at h; cases h⟩) | ((have hs : (sq s n k (L, e) ((List.replicate (f + 1).toNat 2) ++ ((List.replicate (f + 1).toNat 0)))).1 = false := by rw [sq_t (sqR (w := (L, e)) _ c157)]; exact (sqRf (w := (tRep s n k 2 (L, e) (f + 1).toNat).2) _ c169)); rw [gW_W]; exact je_ret jb_X12_isHelped rfl (by rfl) ⟨_, _, by rw [hs]; rfl, rfl, fun h => by rw [hs] at h; cases h⟩)
      · refine je_ps jb_X12_isHelped 2 (pc' := 177) (ls' := [_, _, _, _]) (st' := [_]) rfl ?_
        first | ((have hs : sq s n k (L, e) ((List.replicate (f + 1).toNat 2) ++ ((List.replicate (f + 1).toNat 0))) = (true, (tRep s n k 0 ((tRep s n k 2 (L, e) (f + 1).toNat).2.1, (tRep s n k 2 (L, e) (f + 1).toNat).2.2) (f + 1).toNat).2) := by rw [sq_t (sqR (w := (L, e)) _ c157)]; exact (sqR (w := (tRep s n k 2 (L, e) (f + 1).toNat).2) _ c169)); rw [gW_W]; exact je_ret jb_X12_isHelped rfl (by rfl) ⟨_, _, by rw [hs]; rfl, rfl, fun _ => by rw [hs]⟩) | ((have hs : (sq s n k (L, e) ((List.replicate (f + 1).toNat 2) ++ ((List.replicate (f + 1).toNat 0)))).1 = false := by exact sq_f (sqRf (w := (L, e)) _ c157)); exact je_ret jb_X12_isHelped rfl (by rfl) ⟨_, _, by rw [hs]; rfl, rfl, fun h => by rw [hs] at h; cases h⟩) | ((have hs : (sq s n k (L, e) ((List.replicate (f + 1).toNat 2) ++ ((List.replicate (f + 1).toNat 0)))).1 = false := by rw [sq_t (sqR (w := (L, e)) _ c157)]; exact (sqRf (w := (tRep s n k 2 (L, e) (f + 1).toNat).2) _ c169)); rw [gW_W]; exact je_ret jb_X12_isHelped rfl (by rfl) ⟨_, _, by rw [hs]; rfl, rfl, fun h => by rw [hs] at h; cases h⟩)
  · refine je_swO jb_X12_isHelped rfl (t := 178) rfl (by omega) (by omega) c1 ?_
    exfalso; omega
theorem k_gisHelped_5 {w s n k e f : Int} {L : Int → Int} (g : gWk m w s n k L e) (hf : 0 ≤ f ∧ f ≤ 9) : jq sc 6 jm_X12_isHelped [.ref 45, .int (jI w), .int (jI 5), .int (jI f)] (jh m r T) (hQ s n k w (L, e) (hSp 5 f) m r T) := by
  have e0 : hSp 5 f = (List.replicate (f + 1).toNat 0) ++ ([3] ++ ([1])) := by show (List.replicate (f + 1).toNat 0 ++ [3]) ++ [1] = _; simp
  rw [e0]
  have fs := g.1.2
  have q0 := g.2.2.2.2
  refine je_in jb_X12_isHelped rfl (ls := [_, _, _, _]) rfl ?_
  refine je_ps jb_X12_isHelped 1 (pc' := 1) (ls' := [_, _, _, _]) (st' := [_]) rfl ?_
  refine je_swc fun y1 ey1 => ?_
  rcases (by omega : y1 = 0 ∨ y1 = 1 ∨ y1 = 2 ∨ y1 = 3 ∨ y1 = 4 ∨ (y1 < 0 ∨ 4 < y1)) with c1 | c1 | c1 | c1 | c1 | c1
  · rw [c1]
    refine je_sw jb_X12_isHelped rfl (t := 36) (st' := []) rfl ?_
    exfalso; omega
  · rw [c1]
    refine je_sw jb_X12_isHelped rfl (t := 46) (st' := []) rfl ?_
    exfalso; omega
  · rw [c1]
    refine je_sw jb_X12_isHelped rfl (t := 73) (st' := []) rfl ?_
    exfalso; omega
  · rw [c1]
    refine je_sw jb_X12_isHelped rfl (t := 100) (st' := []) rfl ?_
    exfalso; omega
  · rw [c1]
    refine je_sw jb_X12_isHelped rfl (t := 148) (st' := []) rfl ?_
    exfalso; omega
  · refine je_swO jb_X12_isHelped rfl (t := 178) rfl (by omega) (by omega) c1 ?_
    refine je_ps jb_X12_isHelped 5 (pc' := 183) (ls' := [_, _, _, _]) (st' := [_, _, _, _, _]) rfl ?_
    refine je_iadd jb_X12_isHelped rfl (pc' := 184) rfl ?_
    refine je_cvP' jb_X12_isHelped rfl (pc' := 187) rfl (jh_at (a := 45) rfl) (by rfl) (by first | decide | exact Nat.ble_eq_true_of_le (by omega)) (k_gdoesTimesI g (by omega) (by omega)) (st' := [_]) rfl ?_
    refine je_ifeqb jb_X12_isHelped rfl (t := 212) rfl (pc' := 190) rfl (fun c187 => ?_) (fun c187 => ?_)
    · refine je_ps jb_X12_isHelped 1 (pc' := 213) (ls' := [_, _, _, _]) (st' := [_]) rfl ?_
      first | ((have hs : sq s n k (L, e) ((List.replicate (f + 1).toNat 0) ++ ([3] ++ ([1]))) = (true, (fGo s n k (fGo s n k (tRep s n k 0 (L, e) (f + 1).toNat).2.1 (tRep s n k 0 (L, e) (f + 1).toNat).2.2 3).2.1 (fGo s n k (tRep s n k 0 (L, e) (f + 1).toNat).2.1 (tRep s n k 0 (L, e) (f + 1).toNat).2.2 3).2.2 1).2) := by rw [sq_t (sqR (w := (L, e)) _ c187)]; rw [sq_t (sq1 (w := (tRep s n k 0 (L, e) (f + 1).toNat).2) c196)]; exact (sq1 (w := (fGo s n k (tRep s n k 0 (L, e) (f + 1).toNat).2.1 (tRep s n k 0 (L, e) (f + 1).toNat).2.2 3).2) c205)); rw [gW_W]; exact je_ret jb_X12_isHelped rfl (by rfl) ⟨_, _, by rw [hs]; rfl, rfl, fun _ => by rw [hs]⟩) | ((have hs : (sq s n k (L, e) ((List.replicate (f + 1).toNat 0) ++ ([3] ++ ([1])))).1 = false := by exact sq_f (sqRf (w := (L, e)) _ c187)); exact je_ret jb_X12_isHelped rfl (by rfl) ⟨_, _, by rw [hs]; rfl, rfl, fun h => by rw [hs] at h; cases h⟩) | ((have hs : (sq s n k (L, e) ((List.replicate (f + 1).toNat 0) ++ ([3] ++ ([1])))).1 = false := by rw [sq_t (sqR (w := (L, e)) _ c187)]; exact sq_f (sq1f (w := (tRep s n k 0 (L, e) (f + 1).toNat).2) c196)); rw [gW_W]; exact je_ret jb_X12_isHelped rfl (by rfl) ⟨_, _, by rw [hs]; rfl, rfl, fun h => by rw [hs] at h; cases h⟩) | ((have hs : (sq s n k (L, e) ((List.replicate (f + 1).toNat 0) ++ ([3] ++ ([1])))).1 = false := by rw [sq_t (sqR (w := (L, e)) _ c187)]; rw [sq_t (sq1 (w := (tRep s n k 0 (L, e) (f + 1).toNat).2) c196)]; exact (sq1f (w := (fGo s n k (tRep s n k 0 (L, e) (f + 1).toNat).2.1 (tRep s n k 0 (L, e) (f + 1).toNat).2.2 3).2) c205)); rw [gW_W]; exact je_ret jb_X12_isHelped rfl (by rfl) ⟨_, _, by rw [hs]; rfl, rfl, fun h => by rw [hs] at h; cases h⟩)
    · have ok1 := tRep_ok (l := 0) (w := (L, e)) fs q0.1 q0.2 (f + 1).toNat
      have g1 := gWk.w (m := m) g.1 g.2.1 ok1.1 ok1.2
      refine je_ps jb_X12_isHelped 3 (pc' := 193) (ls' := [_, _, _, _]) (st' := [_, _, _]) rfl ?_
      refine je_cvP' jb_X12_isHelped rfl (pc' := 196) rfl (jh_at (a := 45) rfl) (by rfl) (by first | decide | exact Nat.ble_eq_true_of_le (by omega)) (k_gdoes g1 (by omega)) (st' := [_]) rfl ?_
      refine je_ifeqb jb_X12_isHelped rfl (t := 212) rfl (pc' := 199) rfl (fun c196 => ?_) (fun c196 => ?_)
      · refine je_ps jb_X12_isHelped 1 (pc' := 213) (ls' := [_, _, _, _]) (st' := [_]) rfl ?_
        first | ((have hs : sq s n k (L, e) ((List.replicate (f + 1).toNat 0) ++ ([3] ++ ([1]))) = (true, (fGo s n k (fGo s n k (tRep s n k 0 (L, e) (f + 1).toNat).2.1 (tRep s n k 0 (L, e) (f + 1).toNat).2.2 3).2.1 (fGo s n k (tRep s n k 0 (L, e) (f + 1).toNat).2.1 (tRep s n k 0 (L, e) (f + 1).toNat).2.2 3).2.2 1).2) := by rw [sq_t (sqR (w := (L, e)) _ c187)]; rw [sq_t (sq1 (w := (tRep s n k 0 (L, e) (f + 1).toNat).2) c196)]; exact (sq1 (w := (fGo s n k (tRep s n k 0 (L, e) (f + 1).toNat).2.1 (tRep s n k 0 (L, e) (f + 1).toNat).2.2 3).2) c205)); rw [gW_W]; exact je_ret jb_X12_isHelped rfl (by rfl) ⟨_, _, by rw [hs]; rfl, rfl, fun _ => by rw [hs]⟩) | ((have hs : (sq s n k (L, e) ((List.replicate (f + 1).toNat 0) ++ ([3] ++ ([1])))).1 = false := by exact sq_f (sqRf (w := (L, e)) _ c187)); exact je_ret jb_X12_isHelped rfl (by rfl) ⟨_, _, by rw [hs]; rfl, rfl, fun h => by rw [hs] at h; cases h⟩) | ((have hs : (sq s n k (L, e) ((List.replicate (f + 1).toNat 0) ++ ([3] ++ ([1])))).1 = false := by rw [sq_t (sqR (w := (L, e)) _ c187)]; exact sq_f (sq1f (w := (tRep s n k 0 (L, e) (f + 1).toNat).2) c196)); rw [gW_W]; exact je_ret jb_X12_isHelped rfl (by rfl) ⟨_, _, by rw [hs]; rfl, rfl, fun h => by rw [hs] at h; cases h⟩) | ((have hs : (sq s n k (L, e) ((List.replicate (f + 1).toNat 0) ++ ([3] ++ ([1])))).1 = false := by rw [sq_t (sqR (w := (L, e)) _ c187)]; rw [sq_t (sq1 (w := (tRep s n k 0 (L, e) (f + 1).toNat).2) c196)]; exact (sq1f (w := (fGo s n k (tRep s n k 0 (L, e) (f + 1).toNat).2.1 (tRep s n k 0 (L, e) (f + 1).toNat).2.2 3).2) c205)); rw [gW_W]; exact je_ret jb_X12_isHelped rfl (by rfl) ⟨_, _, by rw [hs]; rfl, rfl, fun h => by rw [hs] at h; cases h⟩)
      · rw [gW_W]
        have ok2 := fGo_ok (c := 3) fs ok1.1 ok1.2
        have g2 := gWk.w (m := m) g.1 g.2.1 ok2.1 ok2.2
        refine je_ps jb_X12_isHelped 3 (pc' := 202) (ls' := [_, _, _, _]) (st' := [_, _, _]) rfl ?_
        refine je_cvP' jb_X12_isHelped rfl (pc' := 205) rfl (jh_at (a := 45) rfl) (by rfl) (by first | decide | exact Nat.ble_eq_true_of_le (by omega)) (k_gdoes g2 (by omega)) (st' := [_]) rfl ?_
        refine je_ifeqb jb_X12_isHelped rfl (t := 212) rfl (pc' := 208) rfl (fun c205 => ?_) (fun c205 => ?_)
        · refine je_ps jb_X12_isHelped 1 (pc' := 213) (ls' := [_, _, _, _]) (st' := [_]) rfl ?_
          first | ((have hs : sq s n k (L, e) ((List.replicate (f + 1).toNat 0) ++ ([3] ++ ([1]))) = (true, (fGo s n k (fGo s n k (tRep s n k 0 (L, e) (f + 1).toNat).2.1 (tRep s n k 0 (L, e) (f + 1).toNat).2.2 3).2.1 (fGo s n k (tRep s n k 0 (L, e) (f + 1).toNat).2.1 (tRep s n k 0 (L, e) (f + 1).toNat).2.2 3).2.2 1).2) := by rw [sq_t (sqR (w := (L, e)) _ c187)]; rw [sq_t (sq1 (w := (tRep s n k 0 (L, e) (f + 1).toNat).2) c196)]; exact (sq1 (w := (fGo s n k (tRep s n k 0 (L, e) (f + 1).toNat).2.1 (tRep s n k 0 (L, e) (f + 1).toNat).2.2 3).2) c205)); rw [gW_W]; exact je_ret jb_X12_isHelped rfl (by rfl) ⟨_, _, by rw [hs]; rfl, rfl, fun _ => by rw [hs]⟩) | ((have hs : (sq s n k (L, e) ((List.replicate (f + 1).toNat 0) ++ ([3] ++ ([1])))).1 = false := by exact sq_f (sqRf (w := (L, e)) _ c187)); exact je_ret jb_X12_isHelped rfl (by rfl) ⟨_, _, by rw [hs]; rfl, rfl, fun h => by rw [hs] at h; cases h⟩) | ((have hs : (sq s n k (L, e) ((List.replicate (f + 1).toNat 0) ++ ([3] ++ ([1])))).1 = false := by rw [sq_t (sqR (w := (L, e)) _ c187)]; exact sq_f (sq1f (w := (tRep s n k 0 (L, e) (f + 1).toNat).2) c196)); rw [gW_W]; exact je_ret jb_X12_isHelped rfl (by rfl) ⟨_, _, by rw [hs]; rfl, rfl, fun h => by rw [hs] at h; cases h⟩) | ((have hs : (sq s n k (L, e) ((List.replicate (f + 1).toNat 0) ++ ([3] ++ ([1])))).1 = false := by rw [sq_t (sqR (w := (L, e)) _ c187)]; rw [sq_t (sq1 (w := (tRep s n k 0 (L, e) (f + 1).toNat).2) c196)]; exact (sq1f (w := (fGo s n k (tRep s n k 0 (L, e) (f + 1).toNat).2.1 (tRep s n k 0 (L, e) (f + 1).toNat).2.2 3).2) c205)); rw [gW_W]; exact je_ret jb_X12_isHelped rfl (by rfl) ⟨_, _, by rw [hs]; rfl, rfl, fun h => by rw [hs] at h; cases h⟩)
        · refine je_ps jb_X12_isHelped 2 (pc' := 213) (ls' := [_, _, _, _]) (st' := [_]) rfl ?_
          first | ((have hs : sq s n k (L, e) ((List.replicate (f + 1).toNat 0) ++ ([3] ++ ([1]))) = (true, (fGo s n k (fGo s n k (tRep s n k 0 (L, e) (f + 1).toNat).2.1 (tRep s n k 0 (L, e) (f + 1).toNat).2.2 3).2.1 (fGo s n k (tRep s n k 0 (L, e) (f + 1).toNat).2.1 (tRep s n k 0 (L, e) (f + 1).toNat).2.2 3).2.2 1).2) := by rw [sq_t (sqR (w := (L, e)) _ c187)]; rw [sq_t (sq1 (w := (tRep s n k 0 (L, e) (f + 1).toNat).2) c196)]; exact (sq1 (w := (fGo s n k (tRep s n k 0 (L, e) (f + 1).toNat).2.1 (tRep s n k 0 (L, e) (f + 1).toNat).2.2 3).2) c205)); rw [gW_W]; exact je_ret jb_X12_isHelped rfl (by rfl) ⟨_, _, by rw [hs]; rfl, rfl, fun _ => by rw [hs]⟩) | ((have hs : (sq s n k (L, e) ((List.replicate (f + 1).toNat 0) ++ ([3] ++ ([1])))).1 = false := by exact sq_f (sqRf (w := (L, e)) _ c187)); exact je_ret jb_X12_isHelped rfl (by rfl) ⟨_, _, by rw [hs]; rfl, rfl, fun h => by rw [hs] at h; cases h⟩) | ((have hs : (sq s n k (L, e) ((List.replicate (f + 1).toNat 0) ++ ([3] ++ ([1])))).1 = false := by rw [sq_t (sqR (w := (L, e)) _ c187)]; exact sq_f (sq1f (w := (tRep s n k 0 (L, e) (f + 1).toNat).2) c196)); rw [gW_W]; exact je_ret jb_X12_isHelped rfl (by rfl) ⟨_, _, by rw [hs]; rfl, rfl, fun h => by rw [hs] at h; cases h⟩) | ((have hs : (sq s n k (L, e) ((List.replicate (f + 1).toNat 0) ++ ([3] ++ ([1])))).1 = false := by rw [sq_t (sqR (w := (L, e)) _ c187)]; rw [sq_t (sq1 (w := (tRep s n k 0 (L, e) (f + 1).toNat).2) c196)]; exact (sq1f (w := (fGo s n k (tRep s n k 0 (L, e) (f + 1).toNat).2.1 (tRep s n k 0 (L, e) (f + 1).toNat).2.2 3).2) c205)); rw [gW_W]; exact je_ret jb_X12_isHelped rfl (by rfl) ⟨_, _, by rw [hs]; rfl, rfl, fun h => by rw [hs] at h; cases h⟩)
end C70
