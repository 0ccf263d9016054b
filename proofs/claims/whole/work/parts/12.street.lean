/-! THE STREET and the small statics -/
section C12
variable {sc : Nat × (Nat → Int32)} {m : Nat → Int → Int} {r : Nat → Nat → Value} {T : jx_H} {σ : jx_H}
/-- a street's numbers -/
def jS (m : Nat → Int → Int) (a : Nat) : Prop := (m a 0 = 0 ∧ m a 1 = 25 ∨ m a 0 = 1 ∧ 3 ≤ m a 1 ∧ m a 1 ≤ 8) ∧ 2 ≤ m a 2 ∧ m a 2 ≤ 5
/-- around -/
theorem c_X11_around {a n : Int} (h1 : -2147483648 ≤ a) (h2 : a ≤ 2147483647) (h3 : 0 < n) (h4 : n ≤ 2147483647) : jq sc 1 jm_X11_around [.int (jI a), .int (jI n)] σ (jP (some (.int (jI (a % n)))) σ) := by
  refine je_in jb_X11_around rfl (ls := [_, _]) rfl ?_
  refine je_ps jb_X11_around 1 (pc' := 1) (ls' := [_, _]) (st' := [_]) rfl ?_
  refine je_ifle jb_X11_around rfl (t := 12) rfl (pc' := 4) rfl (by first | omega | exact (hM _ _).1 | exact (hM _ _).2) (by first | omega | exact (hM _ _).1 | exact (hM _ _).2) (fun c1 => ?_) (fun c1 => ?_)
  · refine je_ps jb_X11_around 1 (pc' := 13) (ls' := [_, _]) (st' := [_]) rfl ?_
    exact je_ret jb_X11_around rfl (by rfl) ⟨rfl, rfl⟩
  · refine je_ps jb_X11_around 2 (pc' := 6) (ls' := [_, _]) (st' := [_, _]) rfl ?_
    refine je_fm jb_X11_around rfl (pc' := 9) rfl rfl rfl (by first | omega | exact (hM _ _).1 | exact (hM _ _).2) (by first | omega | exact (hM _ _).1 | exact (hM _ _).2) (by first | omega | exact (hM _ _).1 | exact (hM _ _).2) (by first | omega | exact (hM _ _).1 | exact (hM _ _).2) ?_
    refine je_ps jb_X11_around 1 (pc' := 13) (ls' := [_, _]) (st' := [_]) rfl ?_
    exact je_ret jb_X11_around rfl (by rfl) ⟨rfl, rfl⟩
theorem c_X5_isLine {i : Nat} (hi : i < 13) (hM : jM m) : jq sc 1 jm_X5_isLine [.ref (jws i)] (jh m r T) (jP (some (.int (jI (jb (decide (m (jws i) 0 = 0)))))) (jh m r T)) := by
  refine je_in jb_X5_isLine rfl (ls := [_]) rfl ?_
  refine je_ps jb_X5_isLine 1 (pc' := 1) (ls' := [_]) (st' := [_]) rfl ?_
  refine je_get jb_X5_isLine rfl (pc' := 4) rfl (jh_str hi) (by rfl) (by rfl) ?_
  refine je_ifne jb_X5_isLine rfl (t := 11) rfl (pc' := 7) rfl (by first | omega | exact (hM _ _).1 | exact (hM _ _).2) (by first | omega | exact (hM _ _).1 | exact (hM _ _).2) (fun c4 => ?_) (fun c4 => ?_)
  · refine je_ps jb_X5_isLine 1 (pc' := 12) (ls' := [_]) (st' := [_]) rfl ?_
    exact je_ret jb_X5_isLine rfl (by rfl) ⟨by simp [c4, jb], rfl⟩
  · refine je_ps jb_X5_isLine 2 (pc' := 12) (ls' := [_]) (st' := [_]) rfl ?_
    exact je_ret jb_X5_isLine rfl (by rfl) ⟨by simp [c4, jb], rfl⟩
theorem c_X5_least {i : Nat} (hi : i < 13) (hM : jM m) : jq sc 1 jm_X5_least [.ref (jws i)] (jh m r T) (jP (some (.int (jI (if m (jws i) 0 = 0 then -12 else 0)))) (jh m r T)) := by
  refine je_in jb_X5_least rfl (ls := [_]) rfl ?_
  refine je_ps jb_X5_least 1 (pc' := 1) (ls' := [_]) (st' := [_]) rfl ?_
  refine je_get jb_X5_least rfl (pc' := 4) rfl (jh_str hi) (by rfl) (by rfl) ?_
  refine je_ifne jb_X5_least rfl (t := 12) rfl (pc' := 7) rfl (by first | omega | exact (hM _ _).1 | exact (hM _ _).2) (by first | omega | exact (hM _ _).1 | exact (hM _ _).2) (fun c4 => ?_) (fun c4 => ?_)
  · refine je_ps jb_X5_least 1 (pc' := 13) (ls' := [_]) (st' := [_]) rfl ?_
    exact je_ret jb_X5_least rfl (by rfl) ⟨by simp [c4], rfl⟩
  · refine je_ps jb_X5_least 2 (pc' := 13) (ls' := [_]) (st' := [_]) rfl ?_
    exact je_ret jb_X5_least rfl (by rfl) ⟨by simp [c4], rfl⟩
end C12
