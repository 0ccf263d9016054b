/-! calls -/
def jx_wsm (q : jx_mt) : List Cond := Cond.code q.1 q.2.1 q.2.2.1 q.2.2.2.1 :: jx_gw
theorem jx_ms_all : jx_ms.all jx_mchk = true := by
  simp only [jx_ms, List.all_append, jx_ms_0_ok, jx_ms_1_ok, jx_ms_2_ok, jx_ms_3_ok, jx_ms_4_ok, jx_ms_5_ok, Bool.and_self]
theorem jx_mx_all : jx_ms.all (fun q => decide (q.2.2.1 ≤ 21)) = true := by decide +kernel
theorem jx_mq {M : Nat} {q : jx_mt} (h : jx_ms[M]? = some q) : Cond.code q.1 q.2.1 q.2.2.1 q.2.2.2.1 ∈ jx_gw ∧ (parseMethodDescriptor q.1.desc).map (fun d => d.parameters.length) = some q.2.2.2.2.1 ∧ q.1.cls = jx_cn q.2.2.2.2.2.1 ∧ plainName q.1.cls = true ∧ (q.1.cls ≠ "java/lang/invoke/MethodHandle" ∧ q.1.cls ≠ "java/lang/invoke/VarHandle") ∧ q.2.2.1 ≤ 21 := by
  have hm := List.all_eq_true.mp jx_ms_all q (List.mem_of_getElem? h)
  have hx := List.all_eq_true.mp jx_mx_all q (List.mem_of_getElem? h)
  unfold jx_mchk at hm
  simp only [Bool.and_eq_true, decide_eq_true_eq] at hm hx
  obtain ⟨⟨⟨⟨h1, h2⟩, h3⟩, h4⟩, h5⟩ := hm
  exact ⟨List.mem_filter.mpr ⟨List.mem_of_getElem? h1, rfl⟩, h2, h3, h4, h5, hx⟩
theorem jx_wsm_good {M : Nat} {q : jx_mt} (h : jx_ms[M]? = some q) : GoodIn jx_gw (jx_wsm q) := by
  intro w hw
  rcases List.mem_cons.mp hw with rfl | hw
  · exact ⟨(jx_mq h).1, Or.inl rfl⟩
  · exact ⟨hw, good_of_word (List.mem_filter.mp hw).2⟩
def jx_Pc (D : va_G) (dA : Nat → ClassId) (E : jx_E) (sc : Nat × (Nat → Int32)) (σ : jx_H) (av : List Value) : Array Value → State → Prop := va_Pc (av.map (jx_v E)) (fun U => jx_X D dA E sc U U.heap ∧ jx_R D dA E σ U.heap)
def jx_Qc (D : va_G) (dA : Nat → ClassId) (E : jx_E) (σ1 : jx_H) (v : Option Value) : Array Value → State → Outcome → State → Prop := fun _ st oc t => oc = .returned (v.map (jx_v E)) ∧ jx_R D dA E σ1 t.heap ∧ ∀ q : Nat, q < E.1 → t.heap[q]? = st.heap[q]?
def jx_rm (d mc ms : Nat) : Room := { frames := d, cells := mc, slots := ms, locals := 40 * d }
/-- a call of ours is a call of the true machine -/
def jx_Met (l : Launch) (D : va_G) (dA : Nat → ClassId) (E : jx_E) (sc : Nat × (Nat → Int32)) (d M : Nat) (av : List Value) (σ : jx_H) (v : Option Value) (σ1 : jx_H) : Prop :=
  σ.length ≤ σ1.length ∧ jx_wt σ ≤ jx_wt σ1 ∧ ∀ q, jx_ms[M]? = some q → Met l q.1 (jx_wsm q) (jx_rm d (σ1.length - σ.length) (jx_wt σ1 - jx_wt σ)) (jx_Pc D dA E sc σ av) (jx_Qc D dA E σ1 v) (σ1.length - σ.length) (jx_wt σ1 - jx_wt σ) (fun q => E.1 ≤ q)
theorem jx_blind {D : va_G} {dA : Nat → ClassId} {E : jx_E} {sc : Nat × (Nat → Int32)} {σ : jx_H} {av : List Value} : FrameBlind (jx_Pc D dA E sc σ av) := fun _ _ _ _ h => ⟨h.1, h.2.1.same rfl, h.2.2⟩
theorem jx_il_S {own idx tag M o : Nat} {ps : List Nat} {q : jx_mt} (he : (idx, tag, 1, M, o, ps) ∈ jx_il.getD own []) (hq : jx_ms[M]? = some q) : Cond.methodLink (jx_cn own) idx q.1 ∈ jx_gw ∧ Cond.static q.1 ∈ jx_gw ∧ Cond.initialized q.1.cls ∈ jx_gw := by
  have hm := jx_every_at jx_il_ok he
  unfold jx_ichk at hm
  simp only [hq] at hm
  rcases ps with _ | ⟨p0, _ | ⟨p1, _ | ⟨p2, _ | ⟨p3, t⟩⟩⟩⟩ <;> first
    | (simp only [Bool.and_eq_true] at hm; exact ⟨jx_w_mem hm.1.1, jx_w_mem hm.1.2, jx_w_mem hm.2⟩)
    | (cases hm; done)
theorem jx_il_SN {own idx tag M o : Nat} {ps : List Nat} {q : jx_mt} (he : (idx, tag, 2, M, o, ps) ∈ jx_il.getD own []) (hq : jx_ms[M]? = some q) : Cond.methodLinkNest (jx_cn own) idx q.1 "LampsAlongStreets" ∈ jx_nw ∧ Cond.static q.1 ∈ jx_gw ∧ Cond.initialized q.1.cls ∈ jx_gw := by
  have hm := jx_every_at jx_il_ok he
  unfold jx_ichk at hm
  simp only [hq] at hm
  rcases ps with _ | ⟨p0, _ | ⟨p1, _ | ⟨p2, _ | ⟨p3, t⟩⟩⟩⟩ <;> first
    | (simp only [Bool.and_eq_true] at hm; exact ⟨jx_wn_mem hm.1.1, jx_w_mem hm.1.2, jx_w_mem hm.2⟩)
    | (cases hm; done)
theorem jx_il_I {own idx tag M o : Nat} {ps : List Nat} {q : jx_mt} (he : (idx, tag, 3, M, o, ps) ∈ jx_il.getD own []) (hq : jx_ms[M]? = some q) : Cond.methodLink (jx_cn own) idx q.1 ∈ jx_gw ∧ Cond.instanceMethod q.1 ∈ jx_gw ∧ Cond.initialized q.1.cls ∈ jx_gw ∧ q.1.name = "<init>" ∧ q.2.2.2.1 = none := by
  have hm := jx_every_at jx_il_ok he
  unfold jx_ichk at hm
  simp only [hq] at hm
  rcases ps with _ | ⟨p0, _ | ⟨p1, _ | ⟨p2, _ | ⟨p3, t⟩⟩⟩⟩ <;> first
    | (simp only [Bool.and_eq_true, decide_eq_true_eq] at hm; exact ⟨jx_w_mem hm.1.1.1.1, jx_w_mem hm.1.1.1.2, jx_w_mem hm.1.1.2, hm.1.2, hm.2⟩)
    | (cases hm; done)
theorem jx_il_IN {own idx tag M o : Nat} {ps : List Nat} {q : jx_mt} (he : (idx, tag, 4, M, o, ps) ∈ jx_il.getD own []) (hq : jx_ms[M]? = some q) : Cond.methodLinkNest (jx_cn own) idx q.1 "LampsAlongStreets" ∈ jx_nw ∧ Cond.instanceMethod q.1 ∈ jx_gw ∧ Cond.initialized q.1.cls ∈ jx_gw ∧ q.1.name = "<init>" ∧ q.2.2.2.1 = none := by
  have hm := jx_every_at jx_il_ok he
  unfold jx_ichk at hm
  simp only [hq] at hm
  rcases ps with _ | ⟨p0, _ | ⟨p1, _ | ⟨p2, _ | ⟨p3, t⟩⟩⟩⟩ <;> first
    | (simp only [Bool.and_eq_true, decide_eq_true_eq] at hm; exact ⟨jx_wn_mem hm.1.1.1.1, jx_w_mem hm.1.1.1.2, jx_w_mem hm.1.1.2, hm.1.2, hm.2⟩)
    | (cases hm; done)
theorem jx_il_V {own idx tag M o : Nat} {ps : List Nat} {q : jx_mt} (he : (idx, tag, 0, M, o, ps) ∈ jx_il.getD own []) (hq : jx_ms[M]? = some q) : Cond.methodLink (jx_cn own) idx q.1 ∈ jx_gw ∧ Cond.instanceMethod q.1 ∈ jx_gw ∧ Cond.selects (jx_cn tag) q.1 q.1 ∈ jx_gw ∧ Cond.initialized q.1.cls ∈ jx_gw := by
  have hm := jx_every_at jx_il_ok he
  unfold jx_ichk at hm
  simp only [hq] at hm
  rcases ps with _ | ⟨p0, _ | ⟨p1, _ | ⟨p2, _ | ⟨p3, _ | ⟨p4, t⟩⟩⟩⟩⟩ <;> first
    | (simp only [Bool.and_eq_true, decide_eq_true_eq] at hm; exact ⟨jx_w_mem hm.1.1.1, jx_w_mem hm.1.1.2, jx_w_mem hm.1.2, jx_w_mem hm.2⟩)
    | (cases hm; done)
theorem jx_il_U {own idx tag M o : Nat} {ps : List Nat} {q : jx_mt} (he : (idx, tag, 6, M, o, ps) ∈ jx_il.getD own []) (hq : jx_ms[M]? = some q) : ∃ x, jx_ms[o]? = some x ∧ Cond.methodLink (jx_cn own) idx x.1 ∈ jx_gw ∧ Cond.sameMethod x.1.cls x.1.cls x.1.name x.1.desc ∈ jx_gw ∧ Cond.instanceMethod x.1 ∈ jx_gw ∧ Cond.selects (jx_cn tag) x.1 q.1 ∈ jx_gw ∧ Cond.instanceMethod q.1 ∈ jx_gw ∧ Cond.initialized q.1.cls ∈ jx_gw ∧ x.1.desc = q.1.desc := by
  have hm := jx_every_at jx_il_ok he
  unfold jx_ichk at hm
  simp only [hq] at hm
  rcases ps with _ | ⟨p0, _ | ⟨p1, _ | ⟨p2, _ | ⟨p3, _ | ⟨p4, _ | ⟨p5, _ | ⟨p6, t⟩⟩⟩⟩⟩⟩⟩ <;> first
    | (cases hx : jx_ms[o]? with
       | none => simp only [hx] at hm; cases hm
       | some x =>
         simp only [hx, Bool.and_eq_true, decide_eq_true_eq] at hm
         exact ⟨x, rfl, jx_w_mem hm.1.1.1.1.1.1, jx_w_mem hm.1.1.1.1.1.2, jx_w_mem hm.1.1.1.1.2, jx_w_mem hm.1.1.1.2, jx_w_mem hm.1.1.2, jx_w_mem hm.1.2, hm.2⟩)
    | (cases hm; done)
theorem jx_il_SU {own idx tag M o : Nat} {ps : List Nat} {q : jx_mt} (he : (idx, tag, 7, M, o, ps) ∈ jx_il.getD own []) (hq : jx_ms[M]? = some q) : Cond.methodLink (jx_cn own) idx q.1 ∈ jx_gw ∧ Cond.sameMethod q.1.cls q.1.cls q.1.name q.1.desc ∈ jx_gw ∧ Cond.superclass (jx_cn own) q.1.cls ∈ jx_gw ∧ Cond.instanceMethod q.1 ∈ jx_gw ∧ Cond.initialized q.1.cls ∈ jx_gw ∧ q.1.name ≠ "<init>" := by
  have hm := jx_every_at jx_il_ok he
  unfold jx_ichk at hm
  simp only [hq] at hm
  rcases ps with _ | ⟨p0, _ | ⟨p1, _ | ⟨p2, _ | ⟨p3, _ | ⟨p4, _ | ⟨p5, t⟩⟩⟩⟩⟩⟩ <;> first
    | (simp only [Bool.and_eq_true, decide_eq_true_eq] at hm; exact ⟨jx_w_mem hm.1.1.1.1.1, jx_w_mem hm.1.1.1.1.2, jx_w_mem hm.1.1.1.2, jx_w_mem hm.1.1.2, jx_w_mem hm.1.2, hm.2⟩)
    | (cases hm; done)
section JV
variable {p : Program} {l : Launch} {e : Env} {R : Room} {s : State} {m : MethodId} {args : Array Value} {below : List Frame} {meth : Method} {c : Code} {H : Heap} {locs : List Loc} {cells slots : Nat} {Q : State → Prop}
variable {cc : ByteArray} {pc : Nat} {lsM : Array Slot} {E : jx_E} {D : va_G} {dA : Nat → ClassId} {own : Nat} {σ0 σ σ1 : jx_H} {sc : Nat × (Nat → Int32)} {st : List Value} {v : Option Value}
theorem jw_back {mc ms : Nat} {st0 rest : List Value} {a : Array Value} (hr : CallRun p l e R s m args below meth c H locs cells slots mc ms (F0 m pc lsM st0) rest (jx_Qc D dA E σ1 v a) (fun q => E.1 ≤ q)) (hJ : jx_J D dA E σ0 s σ H locs cells slots) (h1 : σ.length + mc = σ1.length) (h2 : jx_wt σ + ms = jx_wt σ1)
    (kk : ∀ (H1 : Heap) (locs1 : List Loc) (cells1 slots1 : Nat), jx_J D dA E σ0 s σ1 H1 locs1 cells1 slots1 → W p l e R s m args below meth c H1 locs1 cells1 slots1 Q (F0 m (pc + 3) lsM ((v.map (jx_v E)).toList ++ rest))) : W p l e R s m args below meth c H locs cells slots Q (F0 m pc lsM st0) := by
  intro T hT X
  obtain ⟨v', st₀, t, T', L, h0, X', hL, e1, ⟨q1, q2, q3⟩, st⟩ := hr T hT X
  have hv : v' = v.map (jx_v E) := by
    injection q1
  subst hv
  obtain ⟨j1, j2, j3, j4, j5⟩ := hJ
  obtain ⟨t2, a1, b1⟩ := kk t.heap (locs ++ L) (cells + mc) (slots + ms) ⟨q2, fun q hq => (q3 q hq).trans (by rw [h0]; exact j2 q hq), fun q hq => (List.mem_append.mp hq).elim (j3 q) (fun z => hL q z), by omega, by omega⟩ T' e1 X'
  exact ⟨t2, st t2 a1, b1⟩
theorem jx_pre (hX : jx_X D dA E sc s s.heap) (hJ : jx_J D dA E σ0 s σ H locs cells slots) (av : List Value) : ∀ U : State, U.heap = H → s.WarmedH U.vm → jx_Pc D dA E sc σ av (av.map (jx_v E)).toArray U :=
  fun U hU hW => ⟨rfl, hX.warm hW (fun q hq => by rw [hU]; exact hJ.2.1 q hq), by rw [hU]; exact hJ.1⟩
set_option maxHeartbeats 4000000 in
theorem jw_inv (hexec : p.tables.exec = Jvm.exec) (hb : c.code = cc) (hml : c.maxLocals = lsM.size) (hown : s.vm.findClass (jx_cn own) = some m.cls) (hts : ∀ w ∈ jx_gw, w.before args s = true) (hX : jx_X D dA E sc s s.heap) {d : Nat} (hfr : d + 1 ≤ R.frames) (hlo : 40 * d + 40 ≤ R.locals)
    (hJ : jx_J D dA E σ0 s σ H locs cells slots) {I : Instr} (hdg : decode cc pc = .ok (I, jx_plen I)) {c' : Nat × List Value × List Value} (h : jx_inv own I st σ = some c') (hM : jx_Met l D dA E sc d c'.1 c'.2.1 σ v σ1) (hr1 : σ1.length ≤ σ0.length + R.cells) (hr2 : jx_wt σ1 ≤ jx_wt σ0 + R.slots)
    (kk : ∀ (H1 : Heap) (locs1 : List Loc) (cells1 slots1 : Nat), jx_J D dA E σ0 s σ1 H1 locs1 cells1 slots1 → W p l e R s m args below meth c H1 locs1 cells1 slots1 Q (F0 m (pc + 3) lsM ((v.toList ++ c'.2.2).map (jx_v E)))) : W p l e R s m args below meth c H locs cells slots Q (F0 m pc lsM (st.map (jx_v E))) := by
  obtain ⟨le1, le2, hM⟩ := hM
  have j4 := hJ.2.2.2.1
  have j5 := hJ.2.2.2.2
  have hf : cells + (σ1.length - σ.length) ≤ R.cells ∧ slots + (jx_wt σ1 - jx_wt σ) ≤ R.slots := ⟨by omega, by omega⟩
  have S : CallFix p m c cc c.maxLocals s args jx_gw (jx_cn own) := ⟨hexec, hb, rfl, hown, hts⟩
  obtain ⟨hK, -, -, -, -, -, hnw, -⟩ := id hX
  have kk' : ∀ (H1 : Heap) (locs1 : List Loc) (cells1 slots1 : Nat), jx_J D dA E σ0 s σ1 H1 locs1 cells1 slots1 → W p l e R s m args below meth c H1 locs1 cells1 slots1 Q (F0 m (pc + 3) lsM ((v.map (jx_v E)).toList ++ c'.2.2.map (jx_v E))) := by
    intro H1 locs1 cells1 slots1 hJ1
    have := kk H1 locs1 cells1 slots1 hJ1
    cases v <;> simpa using this
  have hx1 : σ.length + (σ1.length - σ.length) = σ1.length := by omega
  have hx2 : jx_wt σ + (jx_wt σ1 - jx_wt σ) = jx_wt σ1 := by omega
  have hroom : ∀ mx, mx ≤ 21 → (jx_rm d (σ1.length - σ.length) (jx_wt σ1 - jx_wt σ)).frames + 1 ≤ R.frames ∧ 8 + (mx + 11) + (jx_rm d (σ1.length - σ.length) (jx_wt σ1 - jx_wt σ)).locals ≤ R.locals := by
    intro mx hmx
    refine ⟨hfr, ?_⟩
    show 8 + (mx + 11) + 40 * d ≤ R.locals
    omega
  have hlr : ∀ (rest : List Value) (st1 : List Value), Nat.ble (jx_sl rest) 8 = true → 2 * (F0 m pc lsM st1).monitorRoom + ((rest.map (jx_v E)).map fun v => v.category).sum ≤ 8 := by
    intro rest st1 hr
    have := Nat.le_of_ble_eq_true hr
    rw [jx_sl_map]
    show 2 * 0 + _ ≤ 8
    omega
  unfold jx_inv at h
  split at h
  · split at h
    · cases h
    · rename_i idx t he
      obtain ⟨i1, tg, kd, M, o, ps⟩ := t
      have hp := List.find?_some he
      simp only [Bool.and_eq_true, jx_beq] at hp
      obtain ⟨rfl, rfl⟩ := hp
      have hmem := List.mem_of_find?_eq_some he
      try simp only at h
      split at h
      · cases h
      · rename_i q hq
        obtain ⟨hb1, h2⟩ := jx_bif h
        cases h2
        simp only [Bool.and_eq_true, Bool.or_eq_true, jx_beq] at hb1
        obtain ⟨⟨g1, g2⟩, g3⟩ := hb1
        obtain ⟨w1, w2, w3, w4, w5, w6⟩ := jx_mq hq
        have hst : st.map (jx_v E) = ((st.take q.2.2.2.2.1).reverse.map (jx_v E)).reverse ++ (st.drop q.2.2.2.2.1).map (jx_v E) := by
          rw [List.map_reverse, List.reverse_reverse, ← List.map_append, List.take_append_drop]
        have hpre : PreS s H (jx_Pc D dA E sc σ (st.take q.2.2.2.2.1).reverse) ((st.take q.2.2.2.2.1).reverse.map (jx_v E)) := ⟨jx_blind, jx_pre hX hJ _⟩
        have hn : ((st.take q.2.2.2.2.1).reverse.map (jx_v E)).length = q.2.2.2.2.1 := by rw [List.length_map, List.length_reverse]; exact g1
        rcases g2 with rfl | rfl
        · obtain ⟨z1, z2, z3⟩ := jx_il_S hmem hq
          exact jw_back (W.runS S (hM q hq) ⟨callB_of q.2.2.2.2.1 hts (jx_wsm_good hq) rfl rfl rfl (hts _ z3) (hts _ z1) ⟨w5.1, w5.2, w2⟩ (hroom _ w6), hts _ z2⟩ hpre rfl hn hml.symm hst (hlr _ _ g3) hdg hf) hJ hx1 hx2 kk'
        · obtain ⟨z1, z2, z3⟩ := jx_il_SN hmem hq
          exact jw_back (va_runSN S (hM q hq) ⟨va_cnB q.2.2.2.2.1 hts (jx_wsm_good hq) rfl rfl rfl (hnw _ z1) (hts _ z3) ⟨w5.1, w5.2, w2⟩ (hroom _ w6), hts _ z2, trivial⟩ hpre rfl hn hml.symm hst (hlr _ _ g3) hdg hf).run hJ hx1 hx2 kk'
  · split at h
    · cases h
    · rename_i idx t0 he0
      split at h
      · cases h
      · rename_i q0 hq0
        split at h
        · rename_i a rest hdrop
          split at h
          · cases h
          · rename_i cel hc
            split at h
            · cases h
            · rename_i t he
              obtain ⟨i1, tg, kd, M, o, ps⟩ := t
              have hp := List.find?_some he
              simp only [Bool.and_eq_true, Bool.or_eq_true, jx_beq] at hp
              obtain ⟨rfl, htg⟩ := hp
              have hmem := List.mem_of_find?_eq_some he
              try simp only at h
              obtain ⟨hb1, h2⟩ := jx_bif h
              cases h2
              simp only [Bool.and_eq_true, Bool.or_eq_true, jx_beq] at hb1
              obtain ⟨⟨⟨⟨g0, g1⟩, g2⟩, g4⟩, g3⟩ := hb1
              rw [← g0] at hq0
              obtain ⟨w1, w2, w3, w4, w5, w6⟩ := jx_mq hq0
              have hst : st.map (jx_v E) = ((st.take q0.2.2.2.2.1).reverse.map (jx_v E)).reverse ++ .ref (E.1 + a) :: rest.map (jx_v E) := by
                rw [List.map_reverse, List.reverse_reverse]
                show _ = List.map (jx_v E) (st.take q0.2.2.2.2.1) ++ List.map (jx_v E) (.ref a :: rest)
                rw [← hdrop, ← List.map_append, List.take_append_drop]
              have hn : ((st.take q0.2.2.2.2.1).reverse.map (jx_v E)).length = q0.2.2.2.2.1 := by rw [List.length_map, List.length_reverse]; exact g1
              have hpc := jx_pre hX hJ (Value.ref a :: (st.take q0.2.2.2.2.1).reverse)
              rcases g2 with (rfl | rfl) | rfl
              · obtain ⟨z1, z2, z3, z4, z5⟩ := jx_il_I hmem hq0
                exact jw_back (W.runI S (hM q0 hq0) ⟨callB_of q0.2.2.2.2.1 hts (jx_wsm_good hq0) (by rw [← z5]; rfl) rfl rfl (hts _ z3) (hts _ z1) ⟨w5.1, w5.2, w2⟩ (hroom _ w6), z4, hts _ z2⟩ ⟨jx_blind, hpc⟩ rfl hn hml.symm hst (hlr _ _ g3) hdg hf) hJ hx1 hx2 kk'
              · obtain ⟨z1, z2, z3, z4, z5⟩ := jx_il_IN hmem hq0
                exact jw_back (va_runIN S (hM q0 hq0) ⟨va_cnB q0.2.2.2.2.1 hts (jx_wsm_good hq0) (by rw [← z5]; rfl) rfl rfl (hnw _ z1) (hts _ z3) ⟨w5.1, w5.2, w2⟩ (hroom _ w6), z4, hts _ z2⟩ ⟨jx_blind, hpc⟩ rfl hn hml.symm hst (hlr _ _ g3) hdg hf).run hJ hx1 hx2 kk'
              · obtain ⟨z1, z2, z3, z4, z5, z6⟩ := jx_il_SU hmem hq0
                have g4' : cel.1 < 100 := Nat.le_of_ble_eq_true g4
                obtain ⟨cell, r1, r2, r3, r4, r5, r6⟩ := jx_recv hK (hJ.1.2 _ _ hc) g4'
                have hws : Cond.code q0.1 q0.2.1 q0.2.2.1 q0.2.2.2.1 ∈ jx_wsm q0 := List.mem_cons_self
                exact jw_back (va_runSU r4 S (hM q0 hq0) ⟨⟨rfl, rfl, (hroom _ w6).1, (hroom _ w6).2, pay_in hts (jx_wsm_good hq0), hws⟩, hts _ z1, hts _ z2, hts _ z3, hts _ z4, hts _ z5, hts _ w1, z6, fun sig hsg => by rw [hsg] at w2; exact (Option.some.inj w2).symm⟩ ⟨jx_blind, ⟨cell, r1, r2, r3⟩, hpc⟩ rfl hn hml.symm hst (hlr _ _ g3) hdg hf).run hJ hx1 hx2 kk'
        · cases h
  · split at h
    · cases h
    · rename_i idx t0 he0
      split at h
      · cases h
      · rename_i q0 hq0
        split at h
        · rename_i a rest hdrop
          split at h
          · cases h
          · rename_i cel hc
            split at h
            · cases h
            · rename_i t he
              obtain ⟨i1, tg, kd, M, o, ps⟩ := t
              have hp := List.find?_some he
              simp only [Bool.and_eq_true, Bool.or_eq_true, jx_beq] at hp
              obtain ⟨rfl, rfl⟩ := hp
              have hmem := List.mem_of_find?_eq_some he
              try simp only at h
              split at h
              · cases h
              · rename_i q hq
                obtain ⟨hb1, h2⟩ := jx_bif h
                cases h2
                simp only [Bool.and_eq_true, Bool.or_eq_true, jx_beq] at hb1
                obtain ⟨⟨⟨⟨g0, g1⟩, g2⟩, g4⟩, g3⟩ := hb1
                rw [← g0] at g1 hdrop
                obtain ⟨w1, w2, w3, w4, w5, w6⟩ := jx_mq hq
                have hst : st.map (jx_v E) = ((st.take q.2.2.2.2.1).reverse.map (jx_v E)).reverse ++ .ref (E.1 + a) :: rest.map (jx_v E) := by
                  rw [List.map_reverse, List.reverse_reverse]
                  show _ = List.map (jx_v E) (st.take q.2.2.2.2.1) ++ List.map (jx_v E) (.ref a :: rest)
                  rw [← hdrop, ← List.map_append, List.take_append_drop]
                have hn : ((st.take q.2.2.2.2.1).reverse.map (jx_v E)).length = q.2.2.2.2.1 := by rw [List.length_map, List.length_reverse]; exact g1
                have hM' := hM q hq
                rw [← g0] at hM'
                have hpc := jx_pre hX hJ (Value.ref a :: (st.take q.2.2.2.2.1).reverse)
                have g4' : cel.1 < 100 := Nat.le_of_ble_eq_true g4
                obtain ⟨cell, r1, r2, r3, r4, r5, r6⟩ := jx_recv hK (hJ.1.2 _ _ hc) g4'
                rcases g2 with rfl | rfl
                · obtain ⟨z1, z2, z3, z4⟩ := jx_il_V hmem hq
                  exact jw_back (W.runV S hM' ⟨callB_of q.2.2.2.2.1 hts (jx_wsm_good hq) rfl rfl rfl (hts _ z4) (hts _ z1) ⟨w5.1, w5.2, w2⟩ (hroom _ w6), hts _ z2, hts _ z3⟩ ⟨jx_blind, ⟨cell, r1, r2, r3⟩, hpc⟩ rfl hn hml.symm hst (hlr _ _ g3) hdg hf) hJ hx1 hx2 kk'
                · obtain ⟨x, hx, z1, z2, z3, z4, z5, z6, z7⟩ := jx_il_U hmem hq
                  obtain ⟨y1, y2, y3, y4, y5, y6⟩ := jx_mq hx
                  have hws : Cond.code q.1 q.2.1 q.2.2.1 q.2.2.2.1 ∈ jx_wsm q := List.mem_cons_self
                  exact jw_back (va_runU S hM' ⟨⟨rfl, rfl, (hroom _ w6).1, (hroom _ w6).2, pay_in hts (jx_wsm_good hq), hws⟩, hts _ w1, hts _ z6, y5, fun sig hsg => by rw [← z7, hsg] at w2; exact (Option.some.inj w2).symm, hts _ z1, hts _ z2, va_Decl.of (hts _ z3) (hts _ y1), hts _ z4, hts _ z5⟩ ⟨jx_blind, ⟨cell, r1, r2, r3⟩, hpc⟩ rfl hn hml.symm hst (hlr _ _ g3) hdg hf).run hJ hx1 hx2 kk'
        · cases h
  · cases h
end JV
