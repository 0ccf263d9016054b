/-! HELPERS, made and told apart -/
section C24
variable {sc : Nat × (Nat → Int32)} {m : Nat → Int → Int} {r : Nat → Nat → Value} {T : jx_H} {σ : jx_H} {h : Nat} {fig : Int}
theorem jnew_at (σ : jx_H) (c : jx_C) : (σ ++ [c])[σ.length]? = some c := List.getElem?_concat_length
theorem jnew_set (σ : jx_H) (c c' : jx_C) : (σ ++ [c]).set σ.length c' = σ ++ [c'] := by
  rw [List.set_append_right _ _ (Nat.le_refl _)]
  simp
def hOf (have_ asked : Int) : Bool := if asked = 0 then true else if asked = 1 then decide (have_ = 1 ∨ have_ = 3 ∨ have_ = 4) else if asked = 2 then decide (have_ = 2 ∨ have_ = 5) else decide (have_ = asked)
theorem isOf_6 (gh : σ[h]? = some (6, [.int (jI fig)])) {k : Int} (hk : 0 ≤ k ∧ k ≤ 5) : jq sc 1 jm_X11_isOfKind [.ref h, .int (jI k)] σ (jP (some (.int (jI (jb (hOf 0 k))))) σ) := by
  refine je_in jb_X11_isOfKind rfl (ls := [_, _]) rfl ?_
  refine je_ps jb_X11_isOfKind 1 (pc' := 1) (ls' := [_, _]) (st' := [_]) rfl ?_
  refine je_swc fun y1 ey1 => ?_
  rcases (by omega : y1 = 0 ∨ y1 = 1 ∨ y1 = 2 ∨ y1 = 3 ∨ y1 = 4 ∨ y1 = 5 ∨ (y1 < 0 ∨ 5 < y1)) with c1 | c1 | c1 | c1 | c1 | c1 | c1
  · rw [c1]
    refine je_sw jb_X11_isOfKind rfl (t := 40) (st' := []) rfl ?_
    refine je_ps jb_X11_isOfKind 1 (pc' := 41) (ls' := [_, _]) (st' := [_]) rfl ?_
    rw [← ey1, c1]
    first | exact je_retb jb_X11_isOfKind rfl ⟨rfl, rfl⟩ | exact je_ret jb_X11_isOfKind rfl (by rfl) ⟨rfl, rfl⟩
  · rw [c1]
    refine je_sw jb_X11_isOfKind rfl (t := 42) (st' := []) rfl ?_
    refine je_ps jb_X11_isOfKind 1 (pc' := 43) (ls' := [_, _]) (st' := [_]) rfl ?_
    refine je_iof jb_X11_isOfKind rfl (pc' := 46) rfl (gh) (by rfl) ?_
    rw [← ey1, c1]
    first | exact je_retb jb_X11_isOfKind rfl ⟨rfl, rfl⟩ | exact je_ret jb_X11_isOfKind rfl (by rfl) ⟨rfl, rfl⟩
  · rw [c1]
    refine je_sw jb_X11_isOfKind rfl (t := 47) (st' := []) rfl ?_
    refine je_ps jb_X11_isOfKind 1 (pc' := 48) (ls' := [_, _]) (st' := [_]) rfl ?_
    refine je_iof jb_X11_isOfKind rfl (pc' := 51) rfl (gh) (by rfl) ?_
    rw [← ey1, c1]
    first | exact je_retb jb_X11_isOfKind rfl ⟨rfl, rfl⟩ | exact je_ret jb_X11_isOfKind rfl (by rfl) ⟨rfl, rfl⟩
  · rw [c1]
    refine je_sw jb_X11_isOfKind rfl (t := 52) (st' := []) rfl ?_
    refine je_ps jb_X11_isOfKind 1 (pc' := 53) (ls' := [_, _]) (st' := [_]) rfl ?_
    refine je_iof jb_X11_isOfKind rfl (pc' := 56) rfl (gh) (by rfl) ?_
    rw [← ey1, c1]
    first | exact je_retb jb_X11_isOfKind rfl ⟨rfl, rfl⟩ | exact je_ret jb_X11_isOfKind rfl (by rfl) ⟨rfl, rfl⟩
  · rw [c1]
    refine je_sw jb_X11_isOfKind rfl (t := 57) (st' := []) rfl ?_
    refine je_ps jb_X11_isOfKind 1 (pc' := 58) (ls' := [_, _]) (st' := [_]) rfl ?_
    refine je_iof jb_X11_isOfKind rfl (pc' := 61) rfl (gh) (by rfl) ?_
    rw [← ey1, c1]
    first | exact je_retb jb_X11_isOfKind rfl ⟨rfl, rfl⟩ | exact je_ret jb_X11_isOfKind rfl (by rfl) ⟨rfl, rfl⟩
  · rw [c1]
    refine je_sw jb_X11_isOfKind rfl (t := 62) (st' := []) rfl ?_
    refine je_ps jb_X11_isOfKind 1 (pc' := 63) (ls' := [_, _]) (st' := [_]) rfl ?_
    refine je_iof jb_X11_isOfKind rfl (pc' := 66) rfl (gh) (by rfl) ?_
    rw [← ey1, c1]
    first | exact je_retb jb_X11_isOfKind rfl ⟨rfl, rfl⟩ | exact je_ret jb_X11_isOfKind rfl (by rfl) ⟨rfl, rfl⟩
  · refine je_swO jb_X11_isOfKind rfl (t := 67) rfl (by omega) (by omega) c1 ?_
    exfalso; omega
theorem isOf_9 (gh : σ[h]? = some (9, [.int (jI fig)])) {k : Int} (hk : 0 ≤ k ∧ k ≤ 5) : jq sc 1 jm_X11_isOfKind [.ref h, .int (jI k)] σ (jP (some (.int (jI (jb (hOf 1 k))))) σ) := by
  refine je_in jb_X11_isOfKind rfl (ls := [_, _]) rfl ?_
  refine je_ps jb_X11_isOfKind 1 (pc' := 1) (ls' := [_, _]) (st' := [_]) rfl ?_
  refine je_swc fun y1 ey1 => ?_
  rcases (by omega : y1 = 0 ∨ y1 = 1 ∨ y1 = 2 ∨ y1 = 3 ∨ y1 = 4 ∨ y1 = 5 ∨ (y1 < 0 ∨ 5 < y1)) with c1 | c1 | c1 | c1 | c1 | c1 | c1
  · rw [c1]
    refine je_sw jb_X11_isOfKind rfl (t := 40) (st' := []) rfl ?_
    refine je_ps jb_X11_isOfKind 1 (pc' := 41) (ls' := [_, _]) (st' := [_]) rfl ?_
    rw [← ey1, c1]
    first | exact je_retb jb_X11_isOfKind rfl ⟨rfl, rfl⟩ | exact je_ret jb_X11_isOfKind rfl (by rfl) ⟨rfl, rfl⟩
  · rw [c1]
    refine je_sw jb_X11_isOfKind rfl (t := 42) (st' := []) rfl ?_
    refine je_ps jb_X11_isOfKind 1 (pc' := 43) (ls' := [_, _]) (st' := [_]) rfl ?_
    refine je_iof jb_X11_isOfKind rfl (pc' := 46) rfl (gh) (by rfl) ?_
    rw [← ey1, c1]
    first | exact je_retb jb_X11_isOfKind rfl ⟨rfl, rfl⟩ | exact je_ret jb_X11_isOfKind rfl (by rfl) ⟨rfl, rfl⟩
  · rw [c1]
    refine je_sw jb_X11_isOfKind rfl (t := 47) (st' := []) rfl ?_
    refine je_ps jb_X11_isOfKind 1 (pc' := 48) (ls' := [_, _]) (st' := [_]) rfl ?_
    refine je_iof jb_X11_isOfKind rfl (pc' := 51) rfl (gh) (by rfl) ?_
    rw [← ey1, c1]
    first | exact je_retb jb_X11_isOfKind rfl ⟨rfl, rfl⟩ | exact je_ret jb_X11_isOfKind rfl (by rfl) ⟨rfl, rfl⟩
  · rw [c1]
    refine je_sw jb_X11_isOfKind rfl (t := 52) (st' := []) rfl ?_
    refine je_ps jb_X11_isOfKind 1 (pc' := 53) (ls' := [_, _]) (st' := [_]) rfl ?_
    refine je_iof jb_X11_isOfKind rfl (pc' := 56) rfl (gh) (by rfl) ?_
    rw [← ey1, c1]
    first | exact je_retb jb_X11_isOfKind rfl ⟨rfl, rfl⟩ | exact je_ret jb_X11_isOfKind rfl (by rfl) ⟨rfl, rfl⟩
  · rw [c1]
    refine je_sw jb_X11_isOfKind rfl (t := 57) (st' := []) rfl ?_
    refine je_ps jb_X11_isOfKind 1 (pc' := 58) (ls' := [_, _]) (st' := [_]) rfl ?_
    refine je_iof jb_X11_isOfKind rfl (pc' := 61) rfl (gh) (by rfl) ?_
    rw [← ey1, c1]
    first | exact je_retb jb_X11_isOfKind rfl ⟨rfl, rfl⟩ | exact je_ret jb_X11_isOfKind rfl (by rfl) ⟨rfl, rfl⟩
  · rw [c1]
    refine je_sw jb_X11_isOfKind rfl (t := 62) (st' := []) rfl ?_
    refine je_ps jb_X11_isOfKind 1 (pc' := 63) (ls' := [_, _]) (st' := [_]) rfl ?_
    refine je_iof jb_X11_isOfKind rfl (pc' := 66) rfl (gh) (by rfl) ?_
    rw [← ey1, c1]
    first | exact je_retb jb_X11_isOfKind rfl ⟨rfl, rfl⟩ | exact je_ret jb_X11_isOfKind rfl (by rfl) ⟨rfl, rfl⟩
  · refine je_swO jb_X11_isOfKind rfl (t := 67) rfl (by omega) (by omega) c1 ?_
    exfalso; omega
theorem isOf_0 (gh : σ[h]? = some (0, [.int (jI fig)])) {k : Int} (hk : 0 ≤ k ∧ k ≤ 5) : jq sc 1 jm_X11_isOfKind [.ref h, .int (jI k)] σ (jP (some (.int (jI (jb (hOf 2 k))))) σ) := by
  refine je_in jb_X11_isOfKind rfl (ls := [_, _]) rfl ?_
  refine je_ps jb_X11_isOfKind 1 (pc' := 1) (ls' := [_, _]) (st' := [_]) rfl ?_
  refine je_swc fun y1 ey1 => ?_
  rcases (by omega : y1 = 0 ∨ y1 = 1 ∨ y1 = 2 ∨ y1 = 3 ∨ y1 = 4 ∨ y1 = 5 ∨ (y1 < 0 ∨ 5 < y1)) with c1 | c1 | c1 | c1 | c1 | c1 | c1
  · rw [c1]
    refine je_sw jb_X11_isOfKind rfl (t := 40) (st' := []) rfl ?_
    refine je_ps jb_X11_isOfKind 1 (pc' := 41) (ls' := [_, _]) (st' := [_]) rfl ?_
    rw [← ey1, c1]
    first | exact je_retb jb_X11_isOfKind rfl ⟨rfl, rfl⟩ | exact je_ret jb_X11_isOfKind rfl (by rfl) ⟨rfl, rfl⟩
  · rw [c1]
    refine je_sw jb_X11_isOfKind rfl (t := 42) (st' := []) rfl ?_
    refine je_ps jb_X11_isOfKind 1 (pc' := 43) (ls' := [_, _]) (st' := [_]) rfl ?_
    refine je_iof jb_X11_isOfKind rfl (pc' := 46) rfl (gh) (by rfl) ?_
    rw [← ey1, c1]
    first | exact je_retb jb_X11_isOfKind rfl ⟨rfl, rfl⟩ | exact je_ret jb_X11_isOfKind rfl (by rfl) ⟨rfl, rfl⟩
  · rw [c1]
    refine je_sw jb_X11_isOfKind rfl (t := 47) (st' := []) rfl ?_
    refine je_ps jb_X11_isOfKind 1 (pc' := 48) (ls' := [_, _]) (st' := [_]) rfl ?_
    refine je_iof jb_X11_isOfKind rfl (pc' := 51) rfl (gh) (by rfl) ?_
    rw [← ey1, c1]
    first | exact je_retb jb_X11_isOfKind rfl ⟨rfl, rfl⟩ | exact je_ret jb_X11_isOfKind rfl (by rfl) ⟨rfl, rfl⟩
  · rw [c1]
    refine je_sw jb_X11_isOfKind rfl (t := 52) (st' := []) rfl ?_
    refine je_ps jb_X11_isOfKind 1 (pc' := 53) (ls' := [_, _]) (st' := [_]) rfl ?_
    refine je_iof jb_X11_isOfKind rfl (pc' := 56) rfl (gh) (by rfl) ?_
    rw [← ey1, c1]
    first | exact je_retb jb_X11_isOfKind rfl ⟨rfl, rfl⟩ | exact je_ret jb_X11_isOfKind rfl (by rfl) ⟨rfl, rfl⟩
  · rw [c1]
    refine je_sw jb_X11_isOfKind rfl (t := 57) (st' := []) rfl ?_
    refine je_ps jb_X11_isOfKind 1 (pc' := 58) (ls' := [_, _]) (st' := [_]) rfl ?_
    refine je_iof jb_X11_isOfKind rfl (pc' := 61) rfl (gh) (by rfl) ?_
    rw [← ey1, c1]
    first | exact je_retb jb_X11_isOfKind rfl ⟨rfl, rfl⟩ | exact je_ret jb_X11_isOfKind rfl (by rfl) ⟨rfl, rfl⟩
  · rw [c1]
    refine je_sw jb_X11_isOfKind rfl (t := 62) (st' := []) rfl ?_
    refine je_ps jb_X11_isOfKind 1 (pc' := 63) (ls' := [_, _]) (st' := [_]) rfl ?_
    refine je_iof jb_X11_isOfKind rfl (pc' := 66) rfl (gh) (by rfl) ?_
    rw [← ey1, c1]
    first | exact je_retb jb_X11_isOfKind rfl ⟨rfl, rfl⟩ | exact je_ret jb_X11_isOfKind rfl (by rfl) ⟨rfl, rfl⟩
  · refine je_swO jb_X11_isOfKind rfl (t := 67) rfl (by omega) (by omega) c1 ?_
    exfalso; omega
theorem isOf_7 (gh : σ[h]? = some (7, [.int (jI fig)])) {k : Int} (hk : 0 ≤ k ∧ k ≤ 5) : jq sc 1 jm_X11_isOfKind [.ref h, .int (jI k)] σ (jP (some (.int (jI (jb (hOf 3 k))))) σ) := by
  refine je_in jb_X11_isOfKind rfl (ls := [_, _]) rfl ?_
  refine je_ps jb_X11_isOfKind 1 (pc' := 1) (ls' := [_, _]) (st' := [_]) rfl ?_
  refine je_swc fun y1 ey1 => ?_
  rcases (by omega : y1 = 0 ∨ y1 = 1 ∨ y1 = 2 ∨ y1 = 3 ∨ y1 = 4 ∨ y1 = 5 ∨ (y1 < 0 ∨ 5 < y1)) with c1 | c1 | c1 | c1 | c1 | c1 | c1
  · rw [c1]
    refine je_sw jb_X11_isOfKind rfl (t := 40) (st' := []) rfl ?_
    refine je_ps jb_X11_isOfKind 1 (pc' := 41) (ls' := [_, _]) (st' := [_]) rfl ?_
    rw [← ey1, c1]
    first | exact je_retb jb_X11_isOfKind rfl ⟨rfl, rfl⟩ | exact je_ret jb_X11_isOfKind rfl (by rfl) ⟨rfl, rfl⟩
  · rw [c1]
    refine je_sw jb_X11_isOfKind rfl (t := 42) (st' := []) rfl ?_
    refine je_ps jb_X11_isOfKind 1 (pc' := 43) (ls' := [_, _]) (st' := [_]) rfl ?_
    refine je_iof jb_X11_isOfKind rfl (pc' := 46) rfl (gh) (by rfl) ?_
    rw [← ey1, c1]
    first | exact je_retb jb_X11_isOfKind rfl ⟨rfl, rfl⟩ | exact je_ret jb_X11_isOfKind rfl (by rfl) ⟨rfl, rfl⟩
  · rw [c1]
    refine je_sw jb_X11_isOfKind rfl (t := 47) (st' := []) rfl ?_
    refine je_ps jb_X11_isOfKind 1 (pc' := 48) (ls' := [_, _]) (st' := [_]) rfl ?_
    refine je_iof jb_X11_isOfKind rfl (pc' := 51) rfl (gh) (by rfl) ?_
    rw [← ey1, c1]
    first | exact je_retb jb_X11_isOfKind rfl ⟨rfl, rfl⟩ | exact je_ret jb_X11_isOfKind rfl (by rfl) ⟨rfl, rfl⟩
  · rw [c1]
    refine je_sw jb_X11_isOfKind rfl (t := 52) (st' := []) rfl ?_
    refine je_ps jb_X11_isOfKind 1 (pc' := 53) (ls' := [_, _]) (st' := [_]) rfl ?_
    refine je_iof jb_X11_isOfKind rfl (pc' := 56) rfl (gh) (by rfl) ?_
    rw [← ey1, c1]
    first | exact je_retb jb_X11_isOfKind rfl ⟨rfl, rfl⟩ | exact je_ret jb_X11_isOfKind rfl (by rfl) ⟨rfl, rfl⟩
  · rw [c1]
    refine je_sw jb_X11_isOfKind rfl (t := 57) (st' := []) rfl ?_
    refine je_ps jb_X11_isOfKind 1 (pc' := 58) (ls' := [_, _]) (st' := [_]) rfl ?_
    refine je_iof jb_X11_isOfKind rfl (pc' := 61) rfl (gh) (by rfl) ?_
    rw [← ey1, c1]
    first | exact je_retb jb_X11_isOfKind rfl ⟨rfl, rfl⟩ | exact je_ret jb_X11_isOfKind rfl (by rfl) ⟨rfl, rfl⟩
  · rw [c1]
    refine je_sw jb_X11_isOfKind rfl (t := 62) (st' := []) rfl ?_
    refine je_ps jb_X11_isOfKind 1 (pc' := 63) (ls' := [_, _]) (st' := [_]) rfl ?_
    refine je_iof jb_X11_isOfKind rfl (pc' := 66) rfl (gh) (by rfl) ?_
    rw [← ey1, c1]
    first | exact je_retb jb_X11_isOfKind rfl ⟨rfl, rfl⟩ | exact je_ret jb_X11_isOfKind rfl (by rfl) ⟨rfl, rfl⟩
  · refine je_swO jb_X11_isOfKind rfl (t := 67) rfl (by omega) (by omega) c1 ?_
    exfalso; omega
theorem isOf_1 (gh : σ[h]? = some (1, [.int (jI fig)])) {k : Int} (hk : 0 ≤ k ∧ k ≤ 5) : jq sc 1 jm_X11_isOfKind [.ref h, .int (jI k)] σ (jP (some (.int (jI (jb (hOf 4 k))))) σ) := by
  refine je_in jb_X11_isOfKind rfl (ls := [_, _]) rfl ?_
  refine je_ps jb_X11_isOfKind 1 (pc' := 1) (ls' := [_, _]) (st' := [_]) rfl ?_
  refine je_swc fun y1 ey1 => ?_
  rcases (by omega : y1 = 0 ∨ y1 = 1 ∨ y1 = 2 ∨ y1 = 3 ∨ y1 = 4 ∨ y1 = 5 ∨ (y1 < 0 ∨ 5 < y1)) with c1 | c1 | c1 | c1 | c1 | c1 | c1
  · rw [c1]
    refine je_sw jb_X11_isOfKind rfl (t := 40) (st' := []) rfl ?_
    refine je_ps jb_X11_isOfKind 1 (pc' := 41) (ls' := [_, _]) (st' := [_]) rfl ?_
    rw [← ey1, c1]
    first | exact je_retb jb_X11_isOfKind rfl ⟨rfl, rfl⟩ | exact je_ret jb_X11_isOfKind rfl (by rfl) ⟨rfl, rfl⟩
  · rw [c1]
    refine je_sw jb_X11_isOfKind rfl (t := 42) (st' := []) rfl ?_
    refine je_ps jb_X11_isOfKind 1 (pc' := 43) (ls' := [_, _]) (st' := [_]) rfl ?_
    refine je_iof jb_X11_isOfKind rfl (pc' := 46) rfl (gh) (by rfl) ?_
    rw [← ey1, c1]
    first | exact je_retb jb_X11_isOfKind rfl ⟨rfl, rfl⟩ | exact je_ret jb_X11_isOfKind rfl (by rfl) ⟨rfl, rfl⟩
  · rw [c1]
    refine je_sw jb_X11_isOfKind rfl (t := 47) (st' := []) rfl ?_
    refine je_ps jb_X11_isOfKind 1 (pc' := 48) (ls' := [_, _]) (st' := [_]) rfl ?_
    refine je_iof jb_X11_isOfKind rfl (pc' := 51) rfl (gh) (by rfl) ?_
    rw [← ey1, c1]
    first | exact je_retb jb_X11_isOfKind rfl ⟨rfl, rfl⟩ | exact je_ret jb_X11_isOfKind rfl (by rfl) ⟨rfl, rfl⟩
  · rw [c1]
    refine je_sw jb_X11_isOfKind rfl (t := 52) (st' := []) rfl ?_
    refine je_ps jb_X11_isOfKind 1 (pc' := 53) (ls' := [_, _]) (st' := [_]) rfl ?_
    refine je_iof jb_X11_isOfKind rfl (pc' := 56) rfl (gh) (by rfl) ?_
    rw [← ey1, c1]
    first | exact je_retb jb_X11_isOfKind rfl ⟨rfl, rfl⟩ | exact je_ret jb_X11_isOfKind rfl (by rfl) ⟨rfl, rfl⟩
  · rw [c1]
    refine je_sw jb_X11_isOfKind rfl (t := 57) (st' := []) rfl ?_
    refine je_ps jb_X11_isOfKind 1 (pc' := 58) (ls' := [_, _]) (st' := [_]) rfl ?_
    refine je_iof jb_X11_isOfKind rfl (pc' := 61) rfl (gh) (by rfl) ?_
    rw [← ey1, c1]
    first | exact je_retb jb_X11_isOfKind rfl ⟨rfl, rfl⟩ | exact je_ret jb_X11_isOfKind rfl (by rfl) ⟨rfl, rfl⟩
  · rw [c1]
    refine je_sw jb_X11_isOfKind rfl (t := 62) (st' := []) rfl ?_
    refine je_ps jb_X11_isOfKind 1 (pc' := 63) (ls' := [_, _]) (st' := [_]) rfl ?_
    refine je_iof jb_X11_isOfKind rfl (pc' := 66) rfl (gh) (by rfl) ?_
    rw [← ey1, c1]
    first | exact je_retb jb_X11_isOfKind rfl ⟨rfl, rfl⟩ | exact je_ret jb_X11_isOfKind rfl (by rfl) ⟨rfl, rfl⟩
  · refine je_swO jb_X11_isOfKind rfl (t := 67) rfl (by omega) (by omega) c1 ?_
    exfalso; omega
theorem isOf_2 (gh : σ[h]? = some (2, [.int (jI fig)])) {k : Int} (hk : 0 ≤ k ∧ k ≤ 5) : jq sc 1 jm_X11_isOfKind [.ref h, .int (jI k)] σ (jP (some (.int (jI (jb (hOf 5 k))))) σ) := by
  refine je_in jb_X11_isOfKind rfl (ls := [_, _]) rfl ?_
  refine je_ps jb_X11_isOfKind 1 (pc' := 1) (ls' := [_, _]) (st' := [_]) rfl ?_
  refine je_swc fun y1 ey1 => ?_
  rcases (by omega : y1 = 0 ∨ y1 = 1 ∨ y1 = 2 ∨ y1 = 3 ∨ y1 = 4 ∨ y1 = 5 ∨ (y1 < 0 ∨ 5 < y1)) with c1 | c1 | c1 | c1 | c1 | c1 | c1
  · rw [c1]
    refine je_sw jb_X11_isOfKind rfl (t := 40) (st' := []) rfl ?_
    refine je_ps jb_X11_isOfKind 1 (pc' := 41) (ls' := [_, _]) (st' := [_]) rfl ?_
    rw [← ey1, c1]
    first | exact je_retb jb_X11_isOfKind rfl ⟨rfl, rfl⟩ | exact je_ret jb_X11_isOfKind rfl (by rfl) ⟨rfl, rfl⟩
  · rw [c1]
    refine je_sw jb_X11_isOfKind rfl (t := 42) (st' := []) rfl ?_
    refine je_ps jb_X11_isOfKind 1 (pc' := 43) (ls' := [_, _]) (st' := [_]) rfl ?_
    refine je_iof jb_X11_isOfKind rfl (pc' := 46) rfl (gh) (by rfl) ?_
    rw [← ey1, c1]
    first | exact je_retb jb_X11_isOfKind rfl ⟨rfl, rfl⟩ | exact je_ret jb_X11_isOfKind rfl (by rfl) ⟨rfl, rfl⟩
  · rw [c1]
    refine je_sw jb_X11_isOfKind rfl (t := 47) (st' := []) rfl ?_
    refine je_ps jb_X11_isOfKind 1 (pc' := 48) (ls' := [_, _]) (st' := [_]) rfl ?_
    refine je_iof jb_X11_isOfKind rfl (pc' := 51) rfl (gh) (by rfl) ?_
    rw [← ey1, c1]
    first | exact je_retb jb_X11_isOfKind rfl ⟨rfl, rfl⟩ | exact je_ret jb_X11_isOfKind rfl (by rfl) ⟨rfl, rfl⟩
  · rw [c1]
    refine je_sw jb_X11_isOfKind rfl (t := 52) (st' := []) rfl ?_
    refine je_ps jb_X11_isOfKind 1 (pc' := 53) (ls' := [_, _]) (st' := [_]) rfl ?_
    refine je_iof jb_X11_isOfKind rfl (pc' := 56) rfl (gh) (by rfl) ?_
    rw [← ey1, c1]
    first | exact je_retb jb_X11_isOfKind rfl ⟨rfl, rfl⟩ | exact je_ret jb_X11_isOfKind rfl (by rfl) ⟨rfl, rfl⟩
  · rw [c1]
    refine je_sw jb_X11_isOfKind rfl (t := 57) (st' := []) rfl ?_
    refine je_ps jb_X11_isOfKind 1 (pc' := 58) (ls' := [_, _]) (st' := [_]) rfl ?_
    refine je_iof jb_X11_isOfKind rfl (pc' := 61) rfl (gh) (by rfl) ?_
    rw [← ey1, c1]
    first | exact je_retb jb_X11_isOfKind rfl ⟨rfl, rfl⟩ | exact je_ret jb_X11_isOfKind rfl (by rfl) ⟨rfl, rfl⟩
  · rw [c1]
    refine je_sw jb_X11_isOfKind rfl (t := 62) (st' := []) rfl ?_
    refine je_ps jb_X11_isOfKind 1 (pc' := 63) (ls' := [_, _]) (st' := [_]) rfl ?_
    refine je_iof jb_X11_isOfKind rfl (pc' := 66) rfl (gh) (by rfl) ?_
    rw [← ey1, c1]
    first | exact je_retb jb_X11_isOfKind rfl ⟨rfl, rfl⟩ | exact je_ret jb_X11_isOfKind rfl (by rfl) ⟨rfl, rfl⟩
  · refine je_swO jb_X11_isOfKind rfl (t := 67) rfl (by omega) (by omega) c1 ?_
    exfalso; omega
theorem k_newHelper {k : Int} (hk : 0 ≤ k ∧ k ≤ 5) : jq sc 4 jm_X11_newHelper [.int (jI k), .int (jI fig)] (jh m r T) (jP (some (.ref (62 + T.length))) (jh m r (T ++ [(hTag k, [.int (jI fig)])]))) := by
  refine je_in jb_X11_newHelper rfl (ls := [_, _]) rfl ?_
  refine je_ps jb_X11_newHelper 1 (pc' := 1) (ls' := [_, _]) (st' := [_]) rfl ?_
  refine je_swc fun y1 ey1 => ?_
  rcases (by omega : y1 = 1 ∨ y1 = 2 ∨ y1 = 3 ∨ y1 = 4 ∨ y1 = 5 ∨ (y1 < 1 ∨ 5 < y1)) with c1 | c1 | c1 | c1 | c1 | c1
  · rw [c1]
    refine je_sw jb_X11_newHelper rfl (t := 36) (st' := []) rfl ?_
    refine je_new jb_X11_newHelper rfl (pc' := 39) rfl rfl rfl rfl ?_
    refine je_ps jb_X11_newHelper 2 (pc' := 41) (ls' := [_, _]) (st' := [_, _, _]) rfl ?_
    refine je_cvP' jb_X11_newHelper rfl (pc' := 44) rfl (jnew_at _ _) (by rfl) (by first | decide | exact Nat.ble_eq_true_of_le (by omega)) (k9_init_9 (jnew_at _ _)) (st' := [_]) rfl ?_
    first | rw [← ey1, c1] | rw [← ey1, (by omega : y1 = 0)]
    exact je_ret jb_X11_newHelper rfl (by rfl) ⟨by rw [jh_len], by rw [jnew_set, jh_push]; rfl⟩
  · rw [c1]
    refine je_sw jb_X11_newHelper rfl (t := 45) (st' := []) rfl ?_
    refine je_new jb_X11_newHelper rfl (pc' := 48) rfl rfl rfl rfl ?_
    refine je_ps jb_X11_newHelper 2 (pc' := 50) (ls' := [_, _]) (st' := [_, _, _]) rfl ?_
    refine je_cvP' jb_X11_newHelper rfl (pc' := 53) rfl (jnew_at _ _) (by rfl) (by first | decide | exact Nat.ble_eq_true_of_le (by omega)) (k0_init_0 (jnew_at _ _)) (st' := [_]) rfl ?_
    first | rw [← ey1, c1] | rw [← ey1, (by omega : y1 = 0)]
    exact je_ret jb_X11_newHelper rfl (by rfl) ⟨by rw [jh_len], by rw [jnew_set, jh_push]; rfl⟩
  · rw [c1]
    refine je_sw jb_X11_newHelper rfl (t := 54) (st' := []) rfl ?_
    refine je_new jb_X11_newHelper rfl (pc' := 57) rfl rfl rfl rfl ?_
    refine je_ps jb_X11_newHelper 2 (pc' := 59) (ls' := [_, _]) (st' := [_, _, _]) rfl ?_
    refine je_cvP' jb_X11_newHelper rfl (pc' := 62) rfl (jnew_at _ _) (by rfl) (by first | decide | exact Nat.ble_eq_true_of_le (by omega)) (k7_init_7 (jnew_at _ _)) (st' := [_]) rfl ?_
    first | rw [← ey1, c1] | rw [← ey1, (by omega : y1 = 0)]
    exact je_ret jb_X11_newHelper rfl (by rfl) ⟨by rw [jh_len], by rw [jnew_set, jh_push]; rfl⟩
  · rw [c1]
    refine je_sw jb_X11_newHelper rfl (t := 63) (st' := []) rfl ?_
    refine je_new jb_X11_newHelper rfl (pc' := 66) rfl rfl rfl rfl ?_
    refine je_ps jb_X11_newHelper 2 (pc' := 68) (ls' := [_, _]) (st' := [_, _, _]) rfl ?_
    refine je_cvP' jb_X11_newHelper rfl (pc' := 71) rfl (jnew_at _ _) (by rfl) (by first | decide | exact Nat.ble_eq_true_of_le (by omega)) (k1_init_1 (jnew_at _ _)) (st' := [_]) rfl ?_
    first | rw [← ey1, c1] | rw [← ey1, (by omega : y1 = 0)]
    exact je_ret jb_X11_newHelper rfl (by rfl) ⟨by rw [jh_len], by rw [jnew_set, jh_push]; rfl⟩
  · rw [c1]
    refine je_sw jb_X11_newHelper rfl (t := 72) (st' := []) rfl ?_
    refine je_new jb_X11_newHelper rfl (pc' := 75) rfl rfl rfl rfl ?_
    refine je_ps jb_X11_newHelper 2 (pc' := 77) (ls' := [_, _]) (st' := [_, _, _]) rfl ?_
    refine je_cvP' jb_X11_newHelper rfl (pc' := 80) rfl (jnew_at _ _) (by rfl) (by first | decide | exact Nat.ble_eq_true_of_le (by omega)) (k2_init_2 (jnew_at _ _)) (st' := [_]) rfl ?_
    first | rw [← ey1, c1] | rw [← ey1, (by omega : y1 = 0)]
    exact je_ret jb_X11_newHelper rfl (by rfl) ⟨by rw [jh_len], by rw [jnew_set, jh_push]; rfl⟩
  · refine je_swO jb_X11_newHelper rfl (t := 81) rfl (by omega) (by omega) c1 ?_
    refine je_new jb_X11_newHelper rfl (pc' := 84) rfl rfl rfl rfl ?_
    refine je_ps jb_X11_newHelper 2 (pc' := 86) (ls' := [_, _]) (st' := [_, _, _]) rfl ?_
    refine je_cvP' jb_X11_newHelper rfl (pc' := 89) rfl (jnew_at _ _) (by rfl) (by first | decide | exact Nat.ble_eq_true_of_le (by omega)) (k6_init_6 (jnew_at _ _)) (st' := [_]) rfl ?_
    first | rw [← ey1, c1] | rw [← ey1, (by omega : y1 = 0)]
    exact je_ret jb_X11_newHelper rfl (by rfl) ⟨by rw [jh_len], by rw [jnew_set, jh_push]; rfl⟩
end C24
