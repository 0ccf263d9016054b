/-! THE OTHER SIDE: the sphere, lots -/
section C50
variable {sc : Nat × (Nat → Int32)} {m : Nat → Int → Int} {r : Nat → Nat → Value} {T : jx_H} {σ : jx_H}
theorem rn_app {s n k : Int} : ∀ (cs : List Int) (w : (Int → Int) × Int) (c : Int), rn s n k w (cs ++ [c]) = (fGo s n k (rn s n k w cs).1 (rn s n k w cs).2 c).2
  | [], _, _ => rfl
  | _ :: cs, _, c => rn_app cs _ c
theorem wW_s (s n k : Int) (j v : Nat) : wW s n k (j + 1) v = (fGo s n k (wW s n k j v).1 (wW s n k j v).2 ((v / 4 ^ j % 4 : Nat) : Int)).2 := by
  unfold wW dg
  rw [List.range_succ, List.map_append]
  exact rn_app _ _ _
theorem i2_4 {K : Nat} (h : K ≤ 5) : i2 (2 * (K : Int)) = ((4 ^ K : Nat) : Int) := by
  rcases (by omega : K = 0 ∨ K = 1 ∨ K = 2 ∨ K = 3 ∨ K = 4 ∨ K = 5) with e | e | e | e | e | e <;> subst e <;> decide
theorem p4_i {K : Nat} (h : K ≤ 5) : 4 ^ K ≤ 1024 := by
  have := Nat.pow_le_pow_right (n := 4) (by decide) h
  omega
theorem k_gsphere {s n k : Int} (g : gSt m s n k) {K : Nat} (hK : K ≤ 5) : jq sc 6 jm_X12_sphere [.ref 45, .int (jI K)] (jh m r T) (fun v σ => ∃ m', v = some (.int (jI ((gAcc s n k K (4 ^ K)).length : Int))) ∧ σ = jh m' r T ∧ gY m m') := by
  have gs := g.2
  have h4 := p4_i hK
  refine je_in jb_X12_sphere rfl (ls := [_, _, _, _, _]) rfl ?_
  refine je_ps jb_X12_sphere 1 (pc' := 1) (ls' := [_, _, _, _, _]) (st' := [_]) rfl ?_
  refine je_ifge jb_X12_sphere rfl (t := 11) rfl (pc' := 4) rfl (by first | omega | exact (hM _ _).1 | exact (hM _ _).2) (by first | omega | exact (hM _ _).1 | exact (hM _ _).2) (fun c1 => ?_) (fun c1 => ?_)
  · refine je_ps jb_X12_sphere 2 (pc' := 13) (ls' := [_, _, _, _, _]) (st' := [_, _]) rfl ?_
    refine je_icmple jb_X12_sphere rfl (t := 23) rfl (pc' := 16) rfl (by first | omega | exact (hM _ _).1 | exact (hM _ _).2) (by first | omega | exact (hM _ _).1 | exact (hM _ _).2) (by first | omega | exact (hM _ _).1 | exact (hM _ _).2) (by first | omega | exact (hM _ _).1 | exact (hM _ _).2) (fun c13 => ?_) (fun c13 => ?_)
    · refine je_ps jb_X12_sphere 4 (pc' := 27) (ls' := [_, _, _, _, _]) (st' := []) rfl ?_
      refine je_loop (fun (v : Nat) ls σ' => ∃ m1 x, ls = [.ref 45, .int (jI K), .int (jI ((gAcc s n k K v).length : Int)), .int (jI v), x] ∧ σ' = jh m1 r T ∧ gY m m1 ∧ Rep (m1 54, ((gAcc s n k K v).length : Int)) (gAcc s n k K v) ∧ ∀ x, x ∈ gAcc s n k K v → 0 ≤ x ∧ x ≤ 9000000000000000000) (4 ^ K) ⟨_, _, rfl, rfl, gY.rfl' m, ⟨rfl, fun j hj => absurd hj (by show ¬ j < 0; omega)⟩, fun x hx => by cases hx⟩ (fun v hv ls σ' gv kv => ?_) (fun ls σ' gv => ?_)
      · obtain ⟨m1, x, rfl, rfl, ⟨fx, fR, fB⟩⟩ := gv
        have g1 := fx.str g
        have gal := gAcc_len s n k K v
        have ok : fL n k (wW s n k K v).1 ∧ fC s n (wW s n k K v).2 := rn_ok gs (dg v K) (fun _ => 0, 0) (fL_0 gs) (fC_0 gs)
        have gci := gCode_i gs ok.1 ok.2
        have gli := fLen_i gs ok.1 ok.2
        have eg : gAcc s n k K (v + 1) = if wP s n k K v = true then ins (gAcc s n k K v) (gCode s n k (wW s n k K v).1 (wW s n k K v).2) else gAcc s n k K v := rfl
        refine je_ps jb_X12_sphere 4 (pc' := 31) (ls' := [_, _, _, _, _]) (st' := [_, _, _, _]) rfl ?_
        refine je_imul jb_X12_sphere rfl (pc' := 32) rfl ?_
        refine je_ishl1 jb_X12_sphere rfl (pc' := 33) rfl (by first | omega | exact (hM _ _).1 | exact (hM _ _).2) (by first | omega | exact (hM _ _).1 | exact (hM _ _).2) ?_
        rw [i2_4 hK]
        refine je_icmpge jb_X12_sphere rfl (t := 117) rfl (pc' := 36) rfl (by first | omega | exact (hM _ _).1 | exact (hM _ _).2) (by first | omega | exact (hM _ _).1 | exact (hM _ _).2) (by first | omega | exact (hM _ _).1 | exact (hM _ _).2) (by first | omega | exact (hM _ _).1 | exact (hM _ _).2) (fun c33 => ?_) (fun c33 => ?_)
        · first | (exfalso; omega) | (cases c33; done) | (exfalso; simp_all; done)
        · refine je_ps jb_X12_sphere 2 (pc' := 39) (ls' := [_, _, _, _, _]) (st' := [_, _]) rfl ?_
          refine je_cvP' jb_X12_sphere rfl (pc' := 42) rfl (jh_at (a := 45) rfl) (by rfl) (by first | decide | exact Nat.ble_eq_true_of_le (by omega)) (k_gbares (by omega)) (st' := []) rfl ?_
          refine je_ps jb_X12_sphere 2 (pc' := 45) (ls' := [_, _, _, _, _]) (st' := []) rfl ?_
          refine je_loop (fun (j : Nat) ls σ' => ls = [.ref 45, .int (jI K), .int (jI ((gAcc s n k K v).length : Int)), .int (jI v), .int (jI j)] ∧ σ' = jh (gW m1 6 (wW s n k j v).1 (wW s n k j v).2) r T) (K) ⟨rfl, rfl⟩ (fun j hj ls σ' gj kj => ?_) (fun ls σ' gj => ?_)
          · obtain ⟨rfl, rfl⟩ := gj
            have hdv := Nat.div_le_self v (4 ^ j)
            obtain ⟨dq, hdq⟩ : ∃ d, v / 4 ^ j = d := ⟨_, rfl⟩
            rw [hdq] at hdv
            have okj : fL n k (wW s n k j v).1 ∧ fC s n (wW s n k j v).2 := rn_ok gs (dg v j) (fun _ => 0, 0) (fL_0 gs) (fC_0 gs)
            have gj := gWk.w (m := m1) (w := 6) g1 (by omega) okj.1 okj.2
            refine je_ps jb_X12_sphere 2 (pc' := 48) (ls' := [_, _, _, _, _]) (st' := [_, _]) rfl ?_
            refine je_icmpge jb_X12_sphere rfl (t := 72) rfl (pc' := 51) rfl (by first | omega | exact (hM _ _).1 | exact (hM _ _).2) (by first | omega | exact (hM _ _).1 | exact (hM _ _).2) (by first | omega | exact (hM _ _).1 | exact (hM _ _).2) (by first | omega | exact (hM _ _).1 | exact (hM _ _).2) (fun c48 => ?_) (fun c48 => ?_)
            · first | (exfalso; omega) | (cases c48; done) | (exfalso; simp_all; done)
            · refine je_ps jb_X12_sphere 5 (pc' := 58) (ls' := [_, _, _, _, _]) (st' := [_, _, _, _, _]) rfl ?_
              refine je_imul jb_X12_sphere rfl (pc' := 59) rfl ?_
              refine je_ishr4 jb_X12_sphere rfl (pc' := 60) rfl (by first | omega | exact (hM _ _).1 | exact (hM _ _).2) (by first | omega | exact (hM _ _).1 | exact (hM _ _).2) ?_
              rw [hdq]
              refine je_ps jb_X12_sphere 1 (pc' := 61) (ls' := [_, _, _, _, _]) (st' := [_, _, _, _]) rfl ?_
              refine je_iand2 jb_X12_sphere rfl (pc' := 62) rfl (by first | omega | exact (hM _ _).1 | exact (hM _ _).2) (by first | omega | exact (hM _ _).1 | exact (hM _ _).2) (by first | omega | exact (hM _ _).1 | exact (hM _ _).2) (by first | omega | exact (hM _ _).1 | exact (hM _ _).2) ?_
              rw [and3_fin dq (by omega)]
              refine je_cvP' jb_X12_sphere rfl (pc' := 65) rfl (jh_at (a := 45) rfl) (by rfl) (by first | decide | exact Nat.ble_eq_true_of_le (by omega)) (k_gdoes gj (by omega)) (st' := [_]) rfl ?_
              refine je_ps jb_X12_sphere 1 (pc' := 66) (ls' := [_, _, _, _, _]) (st' := []) rfl ?_
              refine je_iinc jb_X12_sphere rfl (pc' := 69) rfl rfl (ls' := [_, _, _, _, _]) rfl ?_
              refine je_ps jb_X12_sphere 1 (pc' := 45) (ls' := [_, _, _, _, _]) (st' := []) rfl ?_
              refine kj _ _ ⟨rfl, jh_eq ?_⟩
              rw [gW_W, wW_s, hdq]
          · obtain ⟨rfl, rfl⟩ := gj
            have gK := gWk.w (m := m1) (w := 6) g1 (by omega) ok.1 ok.2
            refine je_ps jb_X12_sphere 2 (pc' := 48) (ls' := [_, _, _, _, _]) (st' := [_, _]) rfl ?_
            refine je_icmpge jb_X12_sphere rfl (t := 72) rfl (pc' := 51) rfl (by first | omega | exact (hM _ _).1 | exact (hM _ _).2) (by first | omega | exact (hM _ _).1 | exact (hM _ _).2) (by first | omega | exact (hM _ _).1 | exact (hM _ _).2) (by first | omega | exact (hM _ _).1 | exact (hM _ _).2) (fun c48 => ?_) (fun c48 => ?_)
            · refine je_ps jb_X12_sphere 2 (pc' := 75) (ls' := [_, _, _, _, _]) (st' := [_, _]) rfl ?_
              refine je_cv jb_X12_sphere rfl (pc' := 78) rfl (jh_at (a := 45) rfl) (by rfl) (by first | decide | exact Nat.ble_eq_true_of_le (by omega)) (k_glength gK) ?_
              rintro _ _ ⟨m2, rfl, rfl, h2⟩
              show je _ _ _ _ _ [_] _ _
              have g2 := h2.k gK
              have m52 : m2 54 = m1 54 := (h2 54 (by decide) (by decide) (by decide)).trans (gW_43 m1 6 _ _ (by decide) (by decide))
              have fy2 : gY m m2 := (fx.w (by omega) _ _).tr h2.y
              have hnew : (!fAny (fun p => decide (m2 54 (p : Int) = gCode s n k (wW s n k K v).1 (wW s n k K v).2)) (gAcc s n k K v).length) = !fAny (fun p => decide (m1 54 (p : Int) = gCode s n k (wW s n k K v).1 (wW s n k K v).2)) ((gAcc s n k K v).length : Int).toNat := by rw [m52, Int.toNat_natCast]
              refine je_ps jb_X12_sphere 1 (pc' := 79) (ls' := [_, _, _, _, _]) (st' := [_, _]) rfl ?_
              refine je_icmpne jb_X12_sphere rfl (t := 111) rfl (pc' := 82) rfl (by first | omega | exact (hM _ _).1 | exact (hM _ _).2) (by first | omega | exact (hM _ _).1 | exact (hM _ _).2) (by first | omega | exact (hM _ _).1 | exact (hM _ _).2) (by first | omega | exact (hM _ _).1 | exact (hM _ _).2) (fun c79 => ?_) (fun c79 => ?_)
              · refine je_iinc jb_X12_sphere rfl (pc' := 114) rfl rfl (ls' := [_, _, _, _, _]) rfl ?_
                refine je_ps jb_X12_sphere 1 (pc' := 27) (ls' := [_, _, _, _, _]) (st' := []) rfl ?_
                have hPd : wP s n k K v = decide (fLen s n k (wW s n k K v).1 (wW s n k K v).2 = K) := rfl
                first | (rw [hPd, decide_eq_false c79, if_neg (by decide)] at eg; rw [eg] at kv; exact kv _ _ ⟨_, _, rfl, rfl, fy2, by rw [m52]; exact fR, fB⟩) | (rw [hPd, decide_eq_true c79, if_pos rfl] at eg; unfold ins at eg; rw [if_pos (by have := hnew; rw [c93] at this; exact fR.mem.mp (by simpa using this.symm))] at eg; rw [eg] at kv; exact kv _ _ ⟨_, _, rfl, rfl, fy2, by rw [m52]; exact fR, fB⟩) | (rw [hPd, decide_eq_true c79, if_pos rfl] at eg; unfold ins at eg; rw [if_neg (by have := hnew; rw [c93] at this; intro hm; rw [fR.mem.mpr hm] at this; cases this)] at eg; rw [eg, List.length_append, List.length_singleton] at kv; refine kv _ _ ⟨_, _, rfl, rfl, fy2.c _, ?_, ?_⟩; (rw [jU_same, m52]; exact fR.add _); (intro x hx; rcases List.mem_append.mp hx with hx | hx; exact fB x hx; rw [List.mem_singleton] at hx; subst hx; exact gci))
              · refine je_ps jb_X12_sphere 3 (pc' := 86) (ls' := [_, _, _, _, _]) (st' := [_, _, _]) rfl ?_
                refine je_cvP' jb_X12_sphere rfl (pc' := 89) rfl (jh_at (a := 45) rfl) (by rfl) (by first | decide | exact Nat.ble_eq_true_of_le (by omega)) (k_gcode g2) (st' := [_, _]) rfl ?_
                refine je_ps jb_X12_sphere 1 (pc' := 90) (ls' := [_, _, _, _, _]) (st' := [_, _, _]) rfl ?_
                refine je_cvP' jb_X12_sphere rfl (pc' := 93) rfl (jh_at (a := 45) rfl) (by rfl) (by first | decide | exact Nat.ble_eq_true_of_le (by omega)) (k_gisNew (by omega) (by omega) (fun j hj => by rw [m52]; have a := fR.2 j hj; have b := fB _ (List.mem_of_getElem? a); exact ⟨by show -9000000000000000000 ≤ m1 54 (j : Int); have : 0 ≤ m1 54 (j : Int) := b.1; omega, b.2⟩)) (st' := [_]) rfl ?_
                refine je_ifeqb jb_X12_sphere rfl (t := 111) rfl (pc' := 96) rfl (fun c93 => ?_) (fun c93 => ?_)
                · refine je_iinc jb_X12_sphere rfl (pc' := 114) rfl rfl (ls' := [_, _, _, _, _]) rfl ?_
                  refine je_ps jb_X12_sphere 1 (pc' := 27) (ls' := [_, _, _, _, _]) (st' := []) rfl ?_
                  have hPd : wP s n k K v = decide (fLen s n k (wW s n k K v).1 (wW s n k K v).2 = K) := rfl
                  first | (rw [hPd, decide_eq_false c79, if_neg (by decide)] at eg; rw [eg] at kv; exact kv _ _ ⟨_, _, rfl, rfl, fy2, by rw [m52]; exact fR, fB⟩) | (rw [hPd, decide_eq_true c79, if_pos rfl] at eg; unfold ins at eg; rw [if_pos (by have := hnew; rw [c93] at this; exact fR.mem.mp (by simpa using this.symm))] at eg; rw [eg] at kv; exact kv _ _ ⟨_, _, rfl, rfl, fy2, by rw [m52]; exact fR, fB⟩) | (rw [hPd, decide_eq_true c79, if_pos rfl] at eg; unfold ins at eg; rw [if_neg (by have := hnew; rw [c93] at this; intro hm; rw [fR.mem.mpr hm] at this; cases this)] at eg; rw [eg, List.length_append, List.length_singleton] at kv; refine kv _ _ ⟨_, _, rfl, rfl, fy2.c _, ?_, ?_⟩; (rw [jU_same, m52]; exact fR.add _); (intro x hx; rcases List.mem_append.mp hx with hx | hx; exact fB x hx; rw [List.mem_singleton] at hx; subst hx; exact gci))
                · refine je_ps jb_X12_sphere 1 (pc' := 97) (ls' := [_, _, _, _, _]) (st' := [_]) rfl ?_
                  refine je_get jb_X12_sphere rfl (pc' := 100) rfl (jh_at (a := 45) rfl) (by rfl) (by rfl) ?_
                  refine je_ps jb_X12_sphere 3 (pc' := 104) (ls' := [_, _, _, _, _]) (st' := [_, _, _, _]) rfl ?_
                  refine je_cvP' jb_X12_sphere rfl (pc' := 107) rfl (jh_at (a := 45) rfl) (by rfl) (by first | decide | exact Nat.ble_eq_true_of_le (by omega)) (k_gcode g2) (st' := [_, _, _]) rfl ?_
                  refine je_lastI jb_X12_sphere rfl (pc' := 108) rfl (n := 1024) (a := 54) rfl (fun _ => rfl) (by first | omega | exact (hM _ _).1 | exact (hM _ _).2) (by first | omega | exact (hM _ _).1 | exact (hM _ _).2) (by first | omega | exact (hM _ _).1 | exact (hM _ _).2) ?_
                  refine je_iinc jb_X12_sphere rfl (pc' := 111) rfl rfl (ls' := [_, _, _, _, _]) rfl ?_
                  refine je_iinc jb_X12_sphere rfl (pc' := 114) rfl rfl (ls' := [_, _, _, _, _]) rfl ?_
                  refine je_ps jb_X12_sphere 1 (pc' := 27) (ls' := [_, _, _, _, _]) (st' := []) rfl ?_
                  have hPd : wP s n k K v = decide (fLen s n k (wW s n k K v).1 (wW s n k K v).2 = K) := rfl
                  first | (rw [hPd, decide_eq_false c79, if_neg (by decide)] at eg; rw [eg] at kv; exact kv _ _ ⟨_, _, rfl, rfl, fy2, by rw [m52]; exact fR, fB⟩) | (rw [hPd, decide_eq_true c79, if_pos rfl] at eg; unfold ins at eg; rw [if_pos (by have := hnew; rw [c93] at this; exact fR.mem.mp (by simpa using this.symm))] at eg; rw [eg] at kv; exact kv _ _ ⟨_, _, rfl, rfl, fy2, by rw [m52]; exact fR, fB⟩) | (rw [hPd, decide_eq_true c79, if_pos rfl] at eg; unfold ins at eg; rw [if_neg (by have := hnew; rw [c93] at this; intro hm; rw [fR.mem.mpr hm] at this; cases this)] at eg; rw [eg, List.length_append, List.length_singleton] at kv; refine kv _ _ ⟨_, _, rfl, rfl, fy2.c _, ?_, ?_⟩; (rw [jU_same, m52]; exact fR.add _); (intro x hx; rcases List.mem_append.mp hx with hx | hx; exact fB x hx; rw [List.mem_singleton] at hx; subst hx; exact gci))
            · first | (exfalso; omega) | (cases c48; done) | (exfalso; simp_all; done)
      · obtain ⟨m1, x, rfl, rfl, ⟨fx, fR, fB⟩⟩ := gv
        have gal := gAcc_len s n k K (4 ^ K)
        refine je_ps jb_X12_sphere 4 (pc' := 31) (ls' := [_, _, _, _, _]) (st' := [_, _, _, _]) rfl ?_
        refine je_imul jb_X12_sphere rfl (pc' := 32) rfl ?_
        refine je_ishl1 jb_X12_sphere rfl (pc' := 33) rfl (by first | omega | exact (hM _ _).1 | exact (hM _ _).2) (by first | omega | exact (hM _ _).1 | exact (hM _ _).2) ?_
        rw [i2_4 hK]
        refine je_icmpge jb_X12_sphere rfl (t := 117) rfl (pc' := 36) rfl (by first | omega | exact (hM _ _).1 | exact (hM _ _).2) (by first | omega | exact (hM _ _).1 | exact (hM _ _).2) (by first | omega | exact (hM _ _).1 | exact (hM _ _).2) (by first | omega | exact (hM _ _).1 | exact (hM _ _).2) (fun c33 => ?_) (fun c33 => ?_)
        · refine je_ps jb_X12_sphere 1 (pc' := 118) (ls' := [_, _, _, _, _]) (st' := [_]) rfl ?_
          exact je_ret jb_X12_sphere rfl (by rfl) ⟨_, rfl, rfl, fx⟩
        · first | (exfalso; omega) | (cases c33; done) | (exfalso; simp_all; done)
    · first | (exfalso; omega) | (cases c13; done) | (exfalso; simp_all; done)
  · first | (exfalso; omega) | (cases c1; done) | (exfalso; simp_all; done)
end C50
