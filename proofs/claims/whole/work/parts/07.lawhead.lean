/-! THE CLAIM OUT OF ONE WALK OF THE LAW'S BODY. Your part is whole_start (and what it stands on); all else here is the same for every law, but numbers. -/
def R_law : String := "LampsAlongStreetsLaw"
def lw_P (b : Addr) (xs : List Int32) (args : Array Value) (s : State) : Prop := args = #[.ref b] ∧ s.IntsAt b xs ∧ xs.length ≤ 2560 ∧ (Jvm.Cond.and given_1 narrow_1).before args s = true
def lw_Q (_ : Array Value) (s : State) (o : Outcome) (t : State) : Prop := o = .returned (some (.int 1)) ∧ Framed s o t [] 600000 7302250
def lw_Z (below : List Frame) (a : Array Value) (s : State) : State → Prop := fun t => ∃ o, t.status = .running ∧ Ended t below o ∧ lw_Q a s o t
/-- the law's own end, with 1 on the stack, nothing written that was there before, its room as the claim has it -/
theorem lw_ret {p : Program} {l : Launch} {e : Env} {s : State} {m : MethodId} {below : List Frame} {meth : Method} {c : Code} {b : Nat} (hx : p.tables.exec = Jvm.exec) (hb : c.code = code) (hr : meth.sig.returnType = ret) (hlocks : meth.locks = false) {pc : Nat} {H : Heap} {ls : Array Slot} (hdg : decode code pc = .ok (.ireturn, 1)) : W p l e room_1 s m #[Value.ref b] below meth c H [] 600000 7302250 (lw_Z below #[Value.ref b] s) (F0 m pc ls [.int 1]) := by
  intro T hT X
  obtain ⟨fs, hret, hrun, hended, hW, hframe⟩ := X.leave (v := some (.int 1)) (hlocks := hlocks) (fun h => by rw [hr] at h; cases h)
  have hmeth' : T.vm.method? m = some meth := X.method'
  refine ⟨T.setFrames fs, ?_, .returned (some (.int 1)), hrun, hended, rfl, ⟨_, rfl⟩, hW, hframe⟩
  jvm_step X.here [X.here.top, hx, hb, hdg, hmeth', hr, ret, narrow_b1]
  (try refine ⟨rfl, ?_⟩); (try refine ⟨rfl, ?_⟩)
  first | (intro acts; rw [hret _ acts rfl rfl rfl]) | rw [hret _ _ rfl rfl rfl]
  exact Steps.refl _
/-- what holds at the law's entry: the machine, the code, the tables' words (any of lw_tbl by 'hts w (by decide +kernel)'), the script of L ints xs at the cell b, what the Statement gives of the start (any of its parts by flat_of_before) -/
def lw_At (p : Program) (s : State) (m : MethodId) (meth : Method) (c : Code) (b L : Nat) (xs : Nat → Int32) : Prop :=
  p.tables.exec = Jvm.exec ∧ c.code = code ∧ meth.sig.returnType = ret ∧ c.maxLocals = 4 ∧ s.vm.findClass R_law = some m.cls ∧ (∀ w ∈ lw_tbl, w.before #[Value.ref b] s = true) ∧ va_X b L xs s s.heap ∧ b < s.heap.size ∧ meth.locks = false ∧ (Jvm.Cond.and given_1 narrow_1).before #[Value.ref b] s = true
/-! the law's run on the small machine gives the law's walk -/
theorem jx_inst_ok : (jx_cl.all fun r => decide (Cond.instantiable r.1 r.2.2 ∈ lw_tbl) && goodWord (.instantiable r.1 r.2.2)) = true := by decide +kernel
theorem jx_known {s : State} {args : Array Value} (hts : ∀ w ∈ jx_gw, w.before args s = true) : ∃ D : va_G, ∀ (t : Nat) (r : vw_C), jx_cl[t]? = some r → u_Kn s r.1 r.2.1 r.2.2 (D.1 t) (D.2 t) := by
  have h : ∀ t : Nat, ∃ q : ClassId × (Nat → Nat), ∀ r : vw_C, jx_cl[t]? = some r → u_Kn s r.1 r.2.1 r.2.2 q.1 q.2 := by
    intro t
    cases hr : jx_cl[t]? with
    | none => exact ⟨(0, fun _ => 0), fun r h => by cases h⟩
    | some r =>
      have h1 := List.all_eq_true.mp jx_inst_ok r (List.mem_of_getElem? hr)
      simp only [Bool.and_eq_true, decide_eq_true_eq] at h1
      obtain ⟨cC, iS, hk⟩ := u_known hts (jx_uws hr) (hts _ (List.mem_filter.mpr ⟨h1.1, h1.2⟩))
      exact ⟨(cC, iS), fun r' h => by cases h; exact hk⟩
  obtain ⟨f, hf⟩ := Classical.axiomOfChoice h
  exact ⟨(fun t => (f t).1, fun t => (f t).2), fun t r hr => hf t r hr⟩
theorem jx_arrs {s : State} {args : Array Value} (hts : ∀ w ∈ jx_gw, w.before args s = true) (hao : va_AO RX8 s ∧ va_AO RX6 s ∧ va_AO RX3 s) : ∃ dA : Nat → ClassId, ∀ (k : Nat) (q : ClassId × FieldType), (jx_tys dA)[k]? = some q → ArrOfT s q.1 q.2 ∧ va_RA s q.1 q.2 := by
  obtain ⟨c0, k0, p0, a0, b0, d0⟩ := Cond.arrayClass_spec (hts _ jx_aci)
  obtain ⟨c1, k1, p1, a1, b1, d1⟩ := Cond.arrayClass_spec (hts _ jx_acl)
  obtain ⟨p2, c2, k2, e2, -, b2, d2, a2⟩ := Cond.arrayOver_spec hao.1
  obtain ⟨p3, c3, k3, e3, -, b3, d3, a3⟩ := Cond.arrayOver_spec hao.2.1
  obtain ⟨p4, c4, k4, e4, -, b4, d4, a4⟩ := Cond.arrayOver_spec hao.2.2
  refine ⟨fun t => [c0, c1, c2, c3, c4].getD (t - 100) 0, ?_⟩
  intro k q hk
  have hk5 : k < 5 := (List.getElem?_eq_some_iff.mp hk).1
  match k, hk5, hk with
  | 0, _, hk => cases hk; exact ⟨fun n z => ⟨fun k h => (by cases h), k0, b0, p0, d0⟩, a0⟩
  | 1, _, hk => cases hk; exact ⟨fun n z => ⟨fun k h => (by cases h), k1, b1, p1, d1⟩, a1⟩
  | 2, _, hk => cases hk; exact ⟨fun n z => ⟨fun k h => (by cases h), k2, b2, p2, d2⟩, k2, p2, b2, d2, e2, a2⟩
  | 3, _, hk => cases hk; exact ⟨fun n z => ⟨fun k h => (by cases h), k3, b3, p3, d3⟩, k3, p3, b3, d3, e3, a3⟩
  | 4, _, hk => cases hk; exact ⟨fun n z => ⟨fun k h => (by cases h), k4, b4, p4, d4⟩, k4, p4, b4, d4, e4, a4⟩
set_option maxRecDepth 100000 in
theorem jx_nc_ok : (jx_nc.all fun q => decide (Cond.not (.castable q.1 q.2) ∈ flatC (Jvm.Cond.and given_1 narrow_1))) = true := by decide +kernel
theorem jx_signs {s : State} {args : Array Value} (h : (Jvm.Cond.and given_1 narrow_1).before args s = true) {A : Nat → Prop} (hA : ∀ a : Nat, a < s.heap.size → ¬ A a) : ∃ t : Nat, (Term.static "LampsAlongStreets" "SIGNS" "[I").eval args s none [] s = some (.ref t) ∧ va_T .int t 4 (fun j => .int (jx_sg j)) A s s.heap := by
  have hs := flat_of_before _ h
  refine va_Tof (by decide) (hs _ (by decide +kernel)) (va_eqt (z := 4) (hs _ (by decide +kernel))) ?_ hA
  intro j hj
  match j, hj with
  | 0, _ => exact va_eqt (z := 97) (hs _ (by decide +kernel))
  | 1, _ => exact va_eqt (z := 65) (hs _ (by decide +kernel))
  | 2, _ => exact va_eqt (z := 116) (hs _ (by decide +kernel))
  | 3, _ => exact va_eqt (z := 84) (hs _ (by decide +kernel))
theorem jx_ls_mem : Cond.laysStatic "LampsAlongStreets" "SIGNS" "[I" ∈ lw_tbl := List.mem_of_getElem? (i := 241) (by decide +kernel)
theorem jx_li_mem : Cond.initialized "LampsAlongStreets" ∈ lw_tbl := List.mem_of_getElem? (i := 61) (by decide +kernel)
theorem jx_lo8_mem : Cond.arrayOver (.object RX8) ∈ lw_tbl := List.mem_of_getElem? (i := 112) (by decide +kernel)
theorem jx_lo6_mem : Cond.arrayOver (.object RX6) ∈ lw_tbl := List.mem_of_getElem? (i := 114) (by decide +kernel)
theorem jx_lo3_mem : Cond.arrayOver (.object RX3) ∈ lw_tbl := List.mem_of_getElem? (i := 175) (by decide +kernel)
set_option maxHeartbeats 4000000 in
theorem jx_law {p : Program} {e : Env} {s : State} {m : MethodId} {below : List Frame} {meth : Method} {c : Code} (l : Launch) {b L : Nat} {xs : Nat → Int32} (C0 : lw_At p s m meth c b L xs) {d n : Nat} (hd : d ≤ 2000) {σ' : jx_H}
    (hrun : jx_run (L, xs) (jx_call (L, xs) d) n 213 0 (jx_entry 4 [.retAddr 0]) [] [] (some (.int (jI 1))) σ') (h1 : σ'.length ≤ 600000) (h2 : jx_wt σ' ≤ 7302250) :
    W p l e room_1 s m #[Value.ref b] below meth c s.heap [] 0 0 (lw_Z below #[Value.ref b] s) (entryFrame m ([Value.ref b] : List Value).toArray 4) := by
  obtain ⟨hx, hb, hr, hml, hown, hts0, hXs, hbl, hlocks, hgv⟩ := C0
  have hts : ∀ w ∈ jx_gw, w.before #[Value.ref b] s = true := fun w hw => hts0 w (List.mem_filter.mp hw).1
  have hao : va_AO RX8 s ∧ va_AO RX6 s ∧ va_AO RX3 s := ⟨va_AO.of (hts0 _ jx_lo8_mem), va_AO.of (hts0 _ jx_lo6_mem), va_AO.of (hts0 _ jx_lo3_mem)⟩
  obtain ⟨D, hD⟩ := jx_known hts
  obtain ⟨dA, hdA⟩ := jx_arrs hts hao
  have hA : ∀ a : Nat, a < s.heap.size → ¬ (fun q : Nat => s.heap.size ≤ q) a := fun a h => Nat.not_le.mpr h
  obtain ⟨t, ht, hT⟩ := jx_signs hgv hA
  have htl : t < s.heap.size := by
    obtain ⟨cell, hc, -⟩ := hT
    exact (Array.getElem?_eq_some_iff.mp hc).1
  have hX : jx_X D dA (s.heap.size, b, t) (L, xs) s s.heap := by
    refine ⟨⟨hD, hdA⟩, hXs, hT, va_Zref (hts0 _ jx_ls_mem) (hts0 _ jx_li_mem) ht hA, hbl, htl, fun w hw => va_Nw.of (jx_nw_onT hw) (hts0 _ (List.mem_filter.mp hw).1), fun q hq => va_Nc.of (flat_of_before _ hgv _ ?_), hao⟩
    have h3 := List.all_eq_true.mp jx_nc_ok q hq
    simpa using h3
  have hlay : (jx_lay [.retAddr 0]).length ≤ 4 := by decide
  have hlist : jx_ok code (jx_ks.getD 213 []) = true := by
    have h3 : jx_ks.getD 213 [] = jk_law := by rfl
    rw [h3]
    exact jk_law_ok
  rw [lg_entry_eq]
  refine jx_sound_run (R := room_1) (E := (s.heap.size, b, t)) (σ0 := []) (M := 213) (fun M av σ v σ1 h => jx_sound l D dA (s.heap.size, b, t) (L, xs) d M av σ v σ1 h) hx hb hml hown (fun h => by cases h) hts hX rfl (by show d + 1 ≤ 2048; omega) (by show 40 * d + 40 ≤ 84000; omega) hlist (by show _ ≤ 0 + 600000; omega) (by show _ ≤ 0 + 7302250; omega) ?_ n 0 _ [] [] s.heap [] 0 0 _ hrun (jx_entry_L (s.heap.size, b, t) (av := [.retAddr 0]) hlay) ⟨⟨rfl, fun a c h => by simp at h⟩, fun _ _ => rfl, fun _ h => absurd h List.not_mem_nil, rfl, rfl⟩
  intro pc I lsM st H locs cells slots hdg hret hJ
  obtain ⟨j1, j2, j3, j4, j5⟩ := hJ
  have hrt : jx_rt 213 = some .boolean := rfl
  rw [hrt] at hret
  unfold jx_ret at hret
  split at hret
  · cases hret
  · rename_i hrt2; cases hrt2
  · rename_i x hrt2
    obtain ⟨hz, h3⟩ := jx_bif hret
    have h4 : x = jI 1 := Value.int.inj (Option.some.inj (Option.some.inj h3))
    subst h4
    refine va_forget (fun q hq => j3 q hq) ?_
    refine W.widen (k := 600000) (n := 7302250) (by simp at j4; omega) (by simp [jx_wt] at j5; unfold jx_wt at h2; omega) ?_
    exact lw_ret hx hb hr hlocks hdg
  · rename_i hrt2; cases hrt2
  · rename_i hrt2; cases hrt2
  · cases hret
