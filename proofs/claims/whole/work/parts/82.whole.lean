/-! THE LAW, from its entry to its end -/
section C82
variable {sc : Nat × (Nat → Int32)} {m : Nat → Int → Int} {r : Nat → Nat → Value} {T : jx_H} {d : Nat} {Q : Option Value → jx_H → Prop}
theorem jc_len (b : Nat) (f : Int → Int) (g : Nat → Value) : (jc b f g).2.length = (jc b (fun _ => 0) (fun _ => .null)).2.length := by
  unfold jc
  split <;> first | (simp only [List.length_cons, List.length_nil]; done) | (simp [jA, jAl]; done)
theorem wt_jh (m : Nat → Int → Int) (r : Nat → Nat → Value) (T : jx_H) : jx_wt (jh m r T) = jx_wt (jh (fun _ _ => 0) (fun _ _ => .null) []) + jx_wt T := by
  unfold jh jx_wt
  rw [List.map_append, List.sum_append, List.map_map, List.append_nil, List.map_map]
  have e : ∀ l : List Nat, List.map ((fun c : jx_C => c.2.length) ∘ fun b => jc b (m b) (r b)) l = List.map ((fun c : jx_C => c.2.length) ∘ fun b => jc b ((fun _ _ => 0 : Nat → Int → Int) b) ((fun _ _ => .null : Nat → Nat → Value) b)) l := fun l => List.map_congr_left fun b _ => jc_len b _ _
  rw [e]
theorem wt_0 : jx_wt (jh (fun _ _ => 0) (fun _ _ => .null) []) ≤ 10000 := by decide +kernel
theorem len_jh (m : Nat → Int → Int) (r : Nat → Nat → Value) (T : jx_H) : (jh m r T).length = 62 + T.length := by
  unfold jh
  rw [List.length_append, List.length_map, List.length_range]
def A0 : aT := (((0, 25, 2), (0, fun _ => (fun _ => 0, 0)), (0, fun _ => (0, 0))), (false, ((0, 25, 2), (0, fun _ => (fun _ => 0, 0)), (0, fun _ => (0, 0)))), (fun _ => 0, 0), (fun _ => (fun _ => 0, -1)), fun _ => 0)
theorem aOk_0 : aOk A0 := by
  have s0 : scOk ((0, 25, 2), (0, fun _ => (fun _ => 0, 0)), (0, fun _ => (0, 0))) := ⟨by unfold fS; decide, by decide, fun i hi => absurd (show i < 0 from hi) (by omega), by decide, fun i hi => absurd (show i < 0 from hi) (by omega)⟩
  refine ⟨s0, fun h => (by cases h), fun p => (by show 0 ≤ (0 : Int) ∧ (0 : Int) ≤ 255; decide), fun l _ => ⟨Or.inl rfl, fun p => (by show -2147483648 ≤ (0 : Int) ∧ (0 : Int) ≤ 2147483647; decide)⟩⟩
theorem iC_0 : iC A0 m0 r0 [] := by
  refine ⟨aOk_0, ⟨⟨rfl, rfl, rfl⟩, rfl, fun i hi => absurd (show i < 0 from hi) (by omega), rfl, fun i hi => absurd (show i < 0 from hi) (by omega)⟩, ⟨rfl, fun h => (by cases h)⟩, fun i hi p hp => ?_, ⟨rfl, rfl, by decide, by decide⟩, ⟨(fun _ => 0, 0), ⟨rfl, rfl, by decide, by decide⟩, fun p => (by show -2147483648 ≤ (0 : Int) ∧ (0 : Int) ≤ 2147483647; decide)⟩, ⟨(fun _ => 0, 0), ⟨rfl, rfl, by decide, by decide⟩, ?_⟩, ?_, fun j _ _ => rfl⟩
  · have w : ∀ i ∈ List.range 13, jwl i ≠ 2 ∧ jwl i ≠ 20 ∧ jwl i ≠ 45 ∧ jwl i ≠ 56 := by decide
    obtain ⟨w1, w2, w3, w4⟩ := w i (List.mem_range.mpr hi)
    show m0 (jwl i) p = 0
    unfold m0
    split
    · exact absurd (by assumption) w1
    · exact absurd (by assumption) w2
    · exact absurd (by assumption) w3
    · exact absurd (by assumption) w4
    · rfl
  · exact ⟨⟨by decide, by decide⟩, fun p => (by show -2147483648 ≤ (0 : Int) ∧ (0 : Int) ≤ 2147483647; decide)⟩
  · exact ⟨fun _ => 0, fun _ => 0, fun _ _ => 0, fun l _ => Or.inl ⟨rfl, rfl⟩, fun l l' _ _ _ h _ => absurd h (by show ¬ (0 : Int) ≤ -1; decide)⟩
theorem iG_0 : iG A0 m0 := by
  refine ⟨⟨⟨rfl, rfl, rfl, rfl⟩, aOk_0.1.1⟩, rfl, fun i hi => absurd (show i < 0 from hi) (by omega), rfl, fun i hi => absurd (show i < 0 from hi) (by omega), ⟨rfl, fun p p0 p1 => absurd p1 (by show ¬ p < 0; omega)⟩, fun l _ => ⟨rfl, fun p p0 p1 => absurd p1 (by show ¬ p < -1; omega)⟩, fun j _ _ => rfl, rfl, fun h => (by cases h)⟩
def lwQ : Option Value → jx_H → Prop := fun v σ => v = some (.int (jI 1)) ∧ σ.length ≤ 600000 ∧ jx_wt σ ≤ 7302250
set_option maxRecDepth 20000 in
theorem lw_loop (hs : sc.1 ≤ 2560) (hd : 20 ≤ d) : je sc d 213 18 [.retAddr 0, .ref 0, .ref 45, .int (jI 0)] [] (jh m0 r0 []) lwQ := by
  refine je_loop (fun (v : Nat) ls σ' => ∃ A m1 r1 T1 C, ls = [.retAddr 0, .ref 0, .ref 45, .int (jI C)] ∧ σ' = jh m1 r1 T1 ∧ C = 5 * (v : Int) ∧ iC A m1 r1 T1 ∧ iG A m1 ∧ T1.length ≤ 2 * v ∧ jx_wt T1 ≤ 60 * v) (sc.1 / 5) ⟨A0, m0, r0, [], 0, rfl, rfl, by omega, iC_0, iG_0, Nat.le_refl 0, Nat.le_refl 0⟩ (fun v hv ls σ' gv kv => ?_) (fun ls σ' gv => ?_)
  · obtain ⟨A, m1, r1, T1, C, rfl, rfl, ⟨fC, fI, fG, ft, fw⟩⟩ := gv
    have KK : lwK sc d C T1 lwQ := by
      intro A' m' r' T' hI hG ht
      obtain ⟨ht1, ht2⟩ := ht
      refine je_iinc jb_law rfl (pc' := 1130) rfl rfl (ls' := [_, _, _, _]) rfl ?_
      refine je_ps jb_law 1 (pc' := 18) (ls' := [_, _, _, _]) (st' := []) rfl ?_
      exact kv _ _ ⟨A', m', r', T', _, rfl, rfl, by omega, hI, hG, by omega, by omega⟩
    refine je_ps jb_law 2 (pc' := 20) (ls' := [_, _, _, _]) (st' := [_, _]) rfl ?_
    refine je_alen0 jb_law rfl (pc' := 21) rfl ?_
    refine je_ps jb_law 1 (pc' := 22) (ls' := [_, _, _, _]) (st' := [_, _, _]) rfl ?_
    refine je_isub jb_law rfl (pc' := 23) rfl ?_
    refine je_icmpgt jb_law rfl (t := 1133) rfl (pc' := 26) rfl (by first | omega | exact (hM _ _).1 | exact (hM _ _).2) (by first | omega | exact (hM _ _).1 | exact (hM _ _).2) (by first | omega | exact (hM _ _).1 | exact (hM _ _).2) (by first | omega | exact (hM _ _).1 | exact (hM _ _).2) (fun c23 => ?_) (fun c23 => ?_)
    · first | (exfalso; omega) | (cases c23; done) | (exfalso; simp_all; done)
    · refine je_ps jb_law 2 (pc' := 28) (ls' := [_, _, _, _]) (st' := [_, _]) rfl ?_
      refine je_iald0 jb_law rfl (pc' := 29) rfl (by first | omega | exact (hM _ _).1 | exact (hM _ _).2) (by first | omega | exact (hM _ _).1 | exact (hM _ _).2) (by first | omega | exact (hM _ _).1 | exact (hM _ _).2) ?_
      refine je_ps jb_law 1 (pc' := 31) (ls' := [_, _, _, _]) (st' := [_, _]) rfl ?_
      refine je_iandany jb_law rfl (pc' := 32) rfl (fun z31 hz31 => ?_)
      refine je_swc fun y32 ey32 => ?_
      rcases (by omega : y32 = 0 ∨ y32 = 1 ∨ y32 = 2 ∨ y32 = 3 ∨ y32 = 4 ∨ y32 = 5 ∨ y32 = 6 ∨ y32 = 7 ∨ y32 = 8 ∨ y32 = 9 ∨ y32 = 10 ∨ y32 = 11 ∨ y32 = 12 ∨ y32 = 13 ∨ y32 = 14 ∨ y32 = 15 ∨ y32 = 16 ∨ y32 = 17 ∨ y32 = 18 ∨ y32 = 19 ∨ y32 = 20 ∨ y32 = 21 ∨ y32 = 22 ∨ y32 = 23 ∨ y32 = 24 ∨ y32 = 25 ∨ y32 = 26 ∨ y32 = 27 ∨ y32 = 28 ∨ y32 = 29 ∨ y32 = 30 ∨ (y32 < 0 ∨ 30 < y32)) with c32 | c32 | c32 | c32 | c32 | c32 | c32 | c32 | c32 | c32 | c32 | c32 | c32 | c32 | c32 | c32 | c32 | c32 | c32 | c32 | c32 | c32 | c32 | c32 | c32 | c32 | c32 | c32 | c32 | c32 | c32 | c32
      · rw [c32]
        refine je_sw jb_law rfl (t := 172) (st' := []) rfl ?_
        exact lw_letter fI fG (by omega) hs hd KK
      · rw [c32]
        refine je_sw jb_law rfl (t := 195) (st' := []) rfl ?_
        exact lw_word fI fG (by omega) hs hd KK
      · rw [c32]
        refine je_sw jb_law rfl (t := 208) (st' := []) rfl ?_
        exact lw_street fI fG (by omega) hs hd KK
      · rw [c32]
        refine je_sw jb_law rfl (t := 251) (st' := []) rfl ?_
        exact lw_drop fI fG (by omega) hs hd KK
      · rw [c32]
        refine je_sw jb_law rfl (t := 264) (st' := []) rfl ?_
        exact lw_of fI fG (by omega) hs hd KK
      · rw [c32]
        refine je_sw jb_law rfl (t := 297) (st' := []) rfl ?_
        exact lw_lamp fI fG (by omega) hs hd KK
      · rw [c32]
        refine je_sw jb_law rfl (t := 330) (st' := []) rfl ?_
        exact lw_times fI fG (by omega) hs hd KK
      · rw [c32]
        refine je_sw jb_law rfl (t := 363) (st' := []) rfl ?_
        exact lw_inverse fI fG (by omega) hs hd KK
      · rw [c32]
        refine je_sw jb_law rfl (t := 386) (st' := []) rfl ?_
        exact lw_power fI fG (by omega) hs hd KK
      · rw [c32]
        refine je_sw jb_law rfl (t := 419) (st' := []) rfl ?_
        exact lw_conjugate fI fG (by omega) hs hd KK
      · rw [c32]
        refine je_sw jb_law rfl (t := 452) (st' := []) rfl ?_
        exact lw_distance fI fG (by omega) hs hd KK
      · rw [c32]
        refine je_sw jb_law rfl (t := 485) (st' := []) rfl ?_
        exact lw_like fI fG (by omega) hs hd KK
      · rw [c32]
        refine je_sw jb_law rfl (t := 518) (st' := []) rfl ?_
        exact lw_sums fI fG (by omega) hs hd KK
      · rw [c32]
        refine je_sw jb_law rfl (t := 551) (st' := []) rfl ?_
        exact lw_sphere fI fG (by omega) hs hd KK
      · rw [c32]
        refine je_sw jb_law rfl (t := 574) (st' := []) rfl ?_
        exact lw_written fI fG (by omega) hs hd KK
      · rw [c32]
        refine je_sw jb_law rfl (t := 607) (st' := []) rfl ?_
        exact lw_odds fI fG (by omega) hs hd KK
      · rw [c32]
        refine je_sw jb_law rfl (t := 641) (st' := []) rfl ?_
        exact lw_lots fI fG (by omega) hs hd KK
      · rw [c32]
        refine je_sw jb_law rfl (t := 694) (st' := []) rfl ?_
        exact lw_helper fI fG (by omega) hs hd KK
      · rw [c32]
        refine je_sw jb_law rfl (t := 727) (st' := []) rfl ?_
        exact lw_helps fI fG (by omega) hs hd KK
      · rw [c32]
        refine je_sw jb_law rfl (t := 760) (st' := []) rfl ?_
        exact lw_taken fI fG (by omega) hs hd KK
      · rw [c32]
        refine je_sw jb_law rfl (t := 793) (st' := []) rfl ?_
        exact lw_done fI fG (by omega) hs hd KK
      · rw [c32]
        refine je_sw jb_law rfl (t := 826) (st' := []) rfl ?_
        exact lw_step fI fG (by omega) hs hd KK
      · rw [c32]
        refine je_sw jb_law rfl (t := 859) (st' := []) rfl ?_
        exact lw_list fI fG (by omega) hs hd KK
      · rw [c32]
        refine je_sw jb_law rfl (t := 892) (st' := []) rfl ?_
        exact lw_put fI fG (by omega) hs hd KK
      · rw [c32]
        refine je_sw jb_law rfl (t := 935) (st' := []) rfl ?_
        exact lw_look fI fG (by omega) hs hd KK
      · rw [c32]
        refine je_sw jb_law rfl (t := 969) (st' := []) rfl ?_
        exact lw_lays fI fG (by omega) hs hd KK
      · rw [c32]
        refine je_sw jb_law rfl (t := 1012) (st' := []) rfl ?_
        exact lw_from fI fG (by omega) hs hd KK
      · rw [c32]
        refine je_sw jb_law rfl (t := 1045) (st' := []) rfl ?_
        exact lw_judge fI fG (by omega) hs hd KK
      · rw [c32]
        refine je_sw jb_law rfl (t := 1078) (st' := []) rfl ?_
        exact lw_image fI fG (by omega) hs hd KK
      · rw [c32]
        refine je_sw jb_law rfl (t := 1091) (st' := []) rfl ?_
        exact lw_on fI fG (by omega) hs hd KK
      · rw [c32]
        refine je_sw jb_law rfl (t := 1104) (st' := []) rfl ?_
        exact lw_count fI fG (by omega) hs hd KK
      · refine je_swO jb_law rfl (t := 1127) rfl (by omega) (by omega) c32 ?_
        exact KK A m1 r1 T1 fI fG (tG.rfl' T1)
  · obtain ⟨A, m1, r1, T1, C, rfl, rfl, ⟨fC, fI, fG, ft, fw⟩⟩ := gv
    skip
    refine je_ps jb_law 2 (pc' := 20) (ls' := [_, _, _, _]) (st' := [_, _]) rfl ?_
    refine je_alen0 jb_law rfl (pc' := 21) rfl ?_
    refine je_ps jb_law 1 (pc' := 22) (ls' := [_, _, _, _]) (st' := [_, _, _]) rfl ?_
    refine je_isub jb_law rfl (pc' := 23) rfl ?_
    refine je_icmpgt jb_law rfl (t := 1133) rfl (pc' := 26) rfl (by first | omega | exact (hM _ _).1 | exact (hM _ _).2) (by first | omega | exact (hM _ _).1 | exact (hM _ _).2) (by first | omega | exact (hM _ _).1 | exact (hM _ _).2) (by first | omega | exact (hM _ _).1 | exact (hM _ _).2) (fun c23 => ?_) (fun c23 => ?_)
    · refine je_ps jb_law 1 (pc' := 1134) (ls' := [_, _, _, _]) (st' := [_]) rfl ?_
      exact je_ret jb_law rfl (by rfl) ⟨rfl, by rw [len_jh]; omega, by rw [wt_jh]; have := wt_0; omega⟩
    · first | (exfalso; omega) | (cases c23; done) | (exfalso; simp_all; done)
set_option maxRecDepth 20000 in
theorem lw_all (hs : sc.1 ≤ 2560) (hd : 20 ≤ d) : je sc d 213 0 (jx_entry 4 [.retAddr 0]) [] [] lwQ := by
  refine je_ps jb_law 0 (pc' := 0) (ls' := [.retAddr 0, .retAddr 2, .retAddr 2, .retAddr 2]) (st' := []) rfl ?_
  refine je_new jb_law rfl (pc' := 3) rfl rfl rfl (vs := jx_new 11 8) rfl ?_
  show je sc d 213 3 _ [.ref 0] h0a lwQ
  refine je_ps jb_law 1 (pc' := 4) (ls' := [_, _, _, _]) (st' := [_, _]) rfl ?_
  refine je_csP jb_law rfl (pc' := 7) rfl (M' := jm_X11_init) (av := [.ref 0]) (rest := [.ref 0]) rfl (k0 := 10) (Nat.ble_eq_true_of_le (by omega)) k_init1 ?_
  show je sc d 213 7 _ [.ref 0] h43 lwQ
  refine je_ps jb_law 1 (pc' := 8) (ls' := [_, _, _, _]) (st' := []) rfl ?_
  refine je_new jb_law rfl (pc' := 11) rfl rfl rfl (vs := jx_new 12 35) rfl ?_
  have e43 : h43.length = 45 := by decide +kernel
  rw [e43]
  show je sc d 213 11 _ [.ref 45] h0b lwQ
  refine je_ps jb_law 1 (pc' := 12) (ls' := [_, _, _, _]) (st' := [_, _]) rfl ?_
  have e12 : h0b[45]? = some (12, jx_new 12 35) := by
    unfold h0b
    rw [List.getElem?_append_right (by rw [e43]; exact Nat.le_refl _), e43]
    rfl
  refine je_cvP jb_law rfl (pc' := 15) rfl e12 (M' := jm_X12_init) (av := []) (rest := [.ref 45]) rfl (k0 := 10) (Nat.ble_eq_true_of_le (by omega)) k_init2 ?_
  show je sc d 213 15 _ [.ref 45] (jh m0 r0 []) lwQ
  refine je_ps jb_law 3 (pc' := 18) (ls' := [_, _, _, _]) (st' := []) rfl ?_
  exact lw_loop hs hd
end C82
theorem whole_start {p : Program} {e : Env} {s : State} {m : MethodId} {below : List Frame} {meth : Method} {c : Code} (l : Launch) (hflags : l.flags = flags0) {b L : Nat} {xs : Nat → Int32} (hL : L ≤ 2560) (C0 : lw_At p s m meth c b L xs) : W p l e room_1 s m #[Value.ref b] below meth c s.heap [] 0 0 (lw_Z below #[Value.ref b] s) (entryFrame m ([Value.ref b] : List Value).toArray 4) := by
  obtain ⟨n, v, σ', h1, h2, h3, h4⟩ := lw_all (sc := (L, xs)) (d := 30) hL (by decide)
  subst h2
  exact jx_law l C0 (by decide) h1 h3 h4
