/-! THE LETTERS DONE -/
section C30
variable {sc : Nat × (Nat → Int32)} {m : Nat → Int → Int} {r : Nat → Nat → Value} {T : jx_H} {σ : jx_H}
def tRep (s n k l : Int) (w : (Int → Int) × Int) : Nat → Bool × (Int → Int) × Int
  | 0 => (true, w)
  | t + 1 => if (tRep s n k l w t).1 = true then fGo s n k (tRep s n k l w t).2.1 (tRep s n k l w t).2.2 l else tRep s n k l w t
theorem tRep_ok {s n k l : Int} {w : (Int → Int) × Int} (h : fS s n k) (hL : fL n k w.1) (he : fC s n w.2) : ∀ t, fL n k (tRep s n k l w t).2.1 ∧ fC s n (tRep s n k l w t).2.2
  | 0 => ⟨hL, he⟩
  | t + 1 => by
    have q := tRep_ok (l := l) h hL he t
    unfold tRep
    split
    · exact fGo_ok h q.1 q.2
    · exact q
theorem tRep_stay {s n k l : Int} {w : (Int → Int) × Int} {v : Nat} (h : (tRep s n k l w v).1 = false) : ∀ u, v ≤ u → tRep s n k l w u = tRep s n k l w v
  | 0, hw => by
    have : v = 0 := by omega
    rw [this]
  | u + 1, hw => by
    by_cases h1 : v = u + 1
    · rw [h1]
    · have q := tRep_stay h u (by omega)
      show (if (tRep s n k l w u).1 = true then _ else tRep s n k l w u) = _
      rw [q, h]
      rfl
def tOft (q : (Int → Int) × Int) (p : Int) : Int := if tD q (p + 1) = true then fRAt q.1 q.2 (p + 1) - 48 else 1
def tStep (s n k : Int) (q : (Int → Int) × Int) (w : (Int → Int) × Int) (p : Int) : Bool × (Int → Int) × Int := if fLet (fRAt q.1 q.2 p) < 0 then (true, w) else tRep s n k (fLet (fRAt q.1 q.2 p)) w (tOft q p).toNat
def tS (s n k : Int) (q : (Int → Int) × Int) : Nat → (Int → Int) × Int
  | 0 => (fun _ => 0, 0)
  | p + 1 => (tStep s n k q (tS s n k q p) (p : Int)).2
theorem tStep_ok {s n k : Int} {q w : (Int → Int) × Int} (h : fS s n k) (hL : fL n k w.1) (he : fC s n w.2) (p : Int) : fL n k (tStep s n k q w p).2.1 ∧ fC s n (tStep s n k q w p).2.2 := by
  unfold tStep
  split
  · exact ⟨hL, he⟩
  · exact tRep_ok h hL he _
theorem tS_ok {s n k : Int} {q : (Int → Int) × Int} (h : fS s n k) : ∀ p, fL n k (tS s n k q p).1 ∧ fC s n (tS s n k q p).2
  | 0 => ⟨fL_0 h, fC_0 h⟩
  | p + 1 => by
    have g := tS_ok (q := q) h p
    exact tStep_ok h g.1 g.2 _
/-- where a letter can't be done: behind all, if nowhere -/
def tF (s n k : Int) (q : (Int → Int) × Int) : Nat := fFst (fun p => !(tStep s n k q (tS s n k q p) (p : Int)).1) 0 q.2.toNat
theorem tOft_i {q : (Int → Int) × Int} (p : Int) (hf : ∀ p, 0 ≤ q.1 p ∧ q.1 p ≤ 255) : 1 ≤ tOft q p ∧ tOft q p ≤ 9 := by
  unfold tOft
  split
  · rename_i h
    have := of_decide_eq_true h
    omega
  · omega
end C30
