/-! Math.floorMod(II)I of JDK 17: its contract, walked by hand (Math has methods that entries run: so no body of the usual form) -/
def jx_fmN : MethodName := ⟨"java/lang/Math", "floorMod", "(II)I"⟩
theorem jx_fm_at0 : decode jx_fmB 0 = .ok (.iload_n 0, 1) := by decide +kernel
theorem jx_fm_at1 : decode jx_fmB 1 = .ok (.iload_n 1, 1) := by decide +kernel
theorem jx_fm_at2 : decode jx_fmB 2 = .ok (.irem, 1) := by decide +kernel
theorem jx_fm_at3 : decode jx_fmB 3 = .ok (.istore_n 2, 1) := by decide +kernel
theorem jx_fm_at4 : decode jx_fmB 4 = .ok (.iload_n 0, 1) := by decide +kernel
theorem jx_fm_at5 : decode jx_fmB 5 = .ok (.iload_n 1, 1) := by decide +kernel
theorem jx_fm_at6 : decode jx_fmB 6 = .ok (.ixor, 1) := by decide +kernel
theorem jx_fm_at7 : decode jx_fmB 7 = .ok (.ifCond .ge 11, 3) := by decide +kernel
theorem jx_fm_at10 : decode jx_fmB 10 = .ok (.iload_n 2, 1) := by decide +kernel
theorem jx_fm_at11 : decode jx_fmB 11 = .ok (.ifCond .eq 7, 3) := by decide +kernel
theorem jx_fm_at14 : decode jx_fmB 14 = .ok (.iload_n 2, 1) := by decide +kernel
theorem jx_fm_at15 : decode jx_fmB 15 = .ok (.iload_n 1, 1) := by decide +kernel
theorem jx_fm_at16 : decode jx_fmB 16 = .ok (.iadd, 1) := by decide +kernel
theorem jx_fm_at17 : decode jx_fmB 17 = .ok (.ireturn, 1) := by decide +kernel
theorem jx_fm_at18 : decode jx_fmB 18 = .ok (.iload_n 2, 1) := by decide +kernel
theorem jx_fm_at19 : decode jx_fmB 19 = .ok (.ireturn, 1) := by decide +kernel
theorem jx_fm_noRow0 : (NativeRow.find? natives jx_fmN.cls jx_fmN.name jx_fmN.desc).isNone = true := by decide +kernel
theorem jx_fm_noRow (p : Program) : NativeRow.find? p.tables.natives jx_fmN.cls jx_fmN.name jx_fmN.desc = none := by
  cases p <;> exact Option.isNone_iff_eq_none.mp jx_fm_noRow0
def jx_fmS (a0 m0 : Int32) : Spec := { pre := .and (.code jx_fmN jx_fmB 3 (some .int)) (.and (.count 2) (.and (.isInt (.arg 0)) (.and (.isInt (.arg 1)) (.and (.eq (.arg 0) (.int a0)) (.eq (.arg 1) (.int m0)))))), post := .and .returned (.eq .result (.int (jx_fm a0 m0))), changes := some [] }
set_option maxHeartbeats 1000000 in
theorem jx_fm_meets (l : Launch) (a0 m0 : Int32) (hm : m0 ≠ 0) : MeetsLoose l jx_fmN (jx_fmS a0 m0) := by
  refine MeetsLoose.of_body_ov (code := jx_fmB) (maxLocals := 3) (ret := some .int) jx_fm_noRow ?_ ?_
  · intro args s h
    simp only [jx_fmS, Cond.before_and, Bool.and_eq_true] at h
    exact h.1
  · intro p e s m args below meth c s₁ B
    have hpre := B.pre
    simp only [jx_fmS, Cond.before_and, Bool.and_eq_true] at hpre
    obtain ⟨a, b, rfl⟩ := Cond.two_ints hpre.2.1 hpre.2.2.1 hpre.2.2.2.1
    have ea : a = a0 := by
      have := hpre.2.2.2.2.1
      simpa [Cond.before, Cond.holds, Cond.value, Term.eval] using this
    have eb : b = m0 := by
      have := hpre.2.2.2.2.2
      simpa [Cond.before, Cond.holds, Cond.value, Term.eval] using this
    subst ea
    subst eb
    have hloc : argsToLocals #[.int a, .int b] 3 = #[.val (.int a), .val (.int b), .unset] := rfl
    obtain ⟨fs, hfs⟩ := handOver_isSome (s := s₁) (some (.int (jx_fm a b))) B.hears₁
    refine ⟨s₁.setFrames fs, .returned (some (.int (jx_fm a b))), ?_, B.here.running, B.ended hfs (by intro h; cases h), ?_, State.sameBut_nil.mpr ?_⟩
    rotate_left
    · simp [jx_fmS, Cond.after, Cond.holds, Cond.value, Term.eval]
    · rw [State.frames_setFrames _ B.cur₁, B.back]
    unfold entryFrame
    rw [hloc]
    refine Steps.instrAtOv (c := _) (by simpa using B.here) ?_
    simp [jvm, wpRun, exec, B.here.top, B.exec, B.bytes, jx_fm_at0]
    refine Steps.instrAtOv (c := _) (by simpa using B.here) ?_
    simp [jvm, wpRun, exec, B.here.top, B.exec, B.bytes, jx_fm_at1]
    refine Steps.instrAtOv (c := _) (by simpa using B.here) ?_
    simp [jvm, wpRun, exec, B.here.top, B.exec, B.bytes, jx_fm_at2, hm]
    generalize hr : a - a / b * b = r
    have hst : storeLocals #[.val (.int a), .val (.int b), .unset] 2 (.int r) = some #[.val (.int a), .val (.int b), .val (.int r)] := rfl
    refine Steps.instrAtOv (c := _) (by simpa using B.here) ?_
    simp [jvm, wpRun, exec, B.here.top, B.exec, B.bytes, jx_fm_at3, hst]
    refine Steps.instrAtOv (c := _) (by simpa using B.here) ?_
    simp [jvm, wpRun, exec, B.here.top, B.exec, B.bytes, jx_fm_at4]
    refine Steps.instrAtOv (c := _) (by simpa using B.here) ?_
    simp [jvm, wpRun, exec, B.here.top, B.exec, B.bytes, jx_fm_at5]
    refine Steps.instrAtOv (c := _) (by simpa using B.here) ?_
    simp [jvm, wpRun, exec, B.here.top, B.exec, B.bytes, jx_fm_at6]
    by_cases h1 : 0 ≤ a ^^^ b
    · rw [show jx_fm a b = r by simp [jx_fm, h1, hr]] at hfs
      refine Steps.instrAtOv (c := _) (by simpa using B.here) ?_
      simp [jvm, wpRun, exec, B.here.top, B.exec, B.bytes, jx_fm_at7, Op.ifCond.holds, h1]
      refine Steps.instrAtOv (c := _) (by simpa using B.here) ?_
      simp [jvm, wpRun, exec, B.here.top, B.exec, B.bytes, jx_fm_at18]
      refine Steps.instrAtOv (c := _) (by simpa using B.here) ?_
      simp [jvm, wpRun, exec, B.here.top, B.exec, B.bytes, jx_fm_at19, B.method₁, B.returns, narrow]
      intro acts
      rw [ret_to B.frames₁ B.method₁ B.notSynchronized rfl rfl hfs]
      exact Steps.refl _
    · by_cases h2 : r = 0
      · rw [show jx_fm a b = r by simp [jx_fm, h1, hr, h2]] at hfs
        refine Steps.instrAtOv (c := _) (by simpa using B.here) ?_
        simp [jvm, wpRun, exec, B.here.top, B.exec, B.bytes, jx_fm_at7, Op.ifCond.holds, h1]
        refine Steps.instrAtOv (c := _) (by simpa using B.here) ?_
        simp [jvm, wpRun, exec, B.here.top, B.exec, B.bytes, jx_fm_at10]
        refine Steps.instrAtOv (c := _) (by simpa using B.here) ?_
        simp [jvm, wpRun, exec, B.here.top, B.exec, B.bytes, jx_fm_at11, Op.ifCond.holds, h2]
        refine Steps.instrAtOv (c := _) (by simpa using B.here) ?_
        simp [jvm, wpRun, exec, B.here.top, B.exec, B.bytes, jx_fm_at18]
        try rw [h2] at hfs
        refine Steps.instrAtOv (c := _) (by simpa using B.here) ?_
        simp [jvm, wpRun, exec, B.here.top, B.exec, B.bytes, jx_fm_at19, B.method₁, B.returns, narrow]
        intro acts
        rw [ret_to B.frames₁ B.method₁ B.notSynchronized rfl rfl hfs]
        exact Steps.refl _
      · rw [show jx_fm a b = r + b by simp [jx_fm, h1, hr, h2]] at hfs
        refine Steps.instrAtOv (c := _) (by simpa using B.here) ?_
        simp [jvm, wpRun, exec, B.here.top, B.exec, B.bytes, jx_fm_at7, Op.ifCond.holds, h1]
        refine Steps.instrAtOv (c := _) (by simpa using B.here) ?_
        simp [jvm, wpRun, exec, B.here.top, B.exec, B.bytes, jx_fm_at10]
        refine Steps.instrAtOv (c := _) (by simpa using B.here) ?_
        simp [jvm, wpRun, exec, B.here.top, B.exec, B.bytes, jx_fm_at11, Op.ifCond.holds, h2]
        refine Steps.instrAtOv (c := _) (by simpa using B.here) ?_
        simp [jvm, wpRun, exec, B.here.top, B.exec, B.bytes, jx_fm_at14]
        refine Steps.instrAtOv (c := _) (by simpa using B.here) ?_
        simp [jvm, wpRun, exec, B.here.top, B.exec, B.bytes, jx_fm_at15]
        refine Steps.instrAtOv (c := _) (by simpa using B.here) ?_
        simp [jvm, wpRun, exec, B.here.top, B.exec, B.bytes, jx_fm_at16]
        refine Steps.instrAtOv (c := _) (by simpa using B.here) ?_
        simp [jvm, wpRun, exec, B.here.top, B.exec, B.bytes, jx_fm_at17, B.method₁, B.returns, narrow]
        intro acts
        rw [ret_to B.frames₁ B.method₁ B.notSynchronized rfl rfl hfs]
        exact Steps.refl _
section JXF
variable {p : Program} {l : Launch} {e : Env} {R : Room} {s : State} {m : MethodId} {args : Array Value} {below : List Frame} {meth : Method} {c : Code} {H : Heap} {locs : List Loc} {cells slots : Nat} {Q : State → Prop}
variable {pc : Nat} {ls : Array Slot} {rest : List Value}
theorem jx_fmV {T : State} (X : Stand p l e R s m args below meth c T locs cells slots) (hexec : p.tables.exec = Jvm.exec) {own : String} {index : Nat} (hown : s.vm.findClass own = some m.cls)
    (hlink : (Cond.methodLink own index jx_fmN).before args s = true) (hstat : (Cond.static jx_fmN).before args s = true) (hinit : (Cond.initialized "java/lang/Math").before args s = true)
    (hcode : (Cond.code jx_fmN jx_fmB 3 (some .int)).before args s = true)
    {g : JFrame} (hg : g.method = m) (hsize : g.locals.size = c.maxLocals) {a b : Int32} (hb : b ≠ 0) {rest : List Value} (hstack : g.stack = .int b :: .int a :: rest) (hdg : decode c.code g.pc = .ok (.invokestatic index, 3))
    (hframes : 1 ≤ R.frames) (hlocals : 2 * g.monitorRoom + (rest.map fun v => v.category).sum + 14 ≤ R.locals) (hcells : cells ≤ R.cells) (hslots : slots ≤ R.slots) :
    ∃ vm', Stand p l e R s m args below meth c (T.setVm vm') locs cells slots ∧
      ∀ target, Steps p.tables e below ((T.setVm vm').setTop { g with pc := g.pc + 3, stack := .int (jx_fm a b) :: rest }) target → Steps p.tables e below (T.setTop g) target := by
  obtain ⟨v, T', X', ⟨first, t, hpost⟩, hstep⟩ := X.staticByContractV hexec hown hlink hstat hinit hcode (by decide)
    (jx_fm_meets l a b hb)
    rfl rfl rfl rfl
    (fun args' first o s₂ h => by
      simp only [jx_fmS, Cond.after_and, Bool.and_eq_true] at h
      cases o with
      | returned r => exact ⟨r, rfl⟩
      | threw y => simp [Cond.after, Cond.holds, Cond.value] at h)
    hg hsize (argsL := [.int a, .int b]) (rest := rest)
    (fun sig hs => by
      have h : parseMethodDescriptor "(II)I" = some { parameters := [.int, .int], returnType := some .int } := by decide +kernel
      rw [show jx_fmN.desc = "(II)I" from rfl, h] at hs
      rw [← Option.some.inj hs]; rfl)
    hstack hdg
    (fun vm' hW => by
      simp only [jx_fmS, Cond.before_and, Bool.and_eq_true]
      refine ⟨?_, rfl, rfl, rfl, ?_, ?_⟩
      · have q := hcode
        rw [← Cond.code_setVm hW.alike] at q
        simp only [Cond.before, Cond.holds, Cond.value, State.methodNamed?, State.vm_setVm] at q ⊢
        exact q
      · simp [Cond.before, Cond.holds, Cond.value, Term.eval]
      · simp [Cond.before, Cond.holds, Cond.value, Term.eval])
    (by show 0 + 1 ≤ R.frames; omega) (by show 2 * g.monitorRoom + (rest.map fun v => v.category).sum + (3 + 11) + 0 ≤ R.locals; omega) (by show cells + 0 ≤ R.cells; omega) (by show slots + 0 ≤ R.slots; omega)
  refine ⟨T', X', fun target h => hstep target ?_⟩
  obtain rfl : v = some (.int (jx_fm a b)) := by
    rcases v with _ | w
    · simp [jx_fmS, Cond.after, Cond.holds, Cond.value, Term.eval] at hpost
    · cases w <;> simp [jx_fmS, Cond.after, Cond.holds, Cond.value, Term.eval] at hpost
      rw [hpost]
  exact h
theorem jx_mfm {cc : ByteArray} (hexec : p.tables.exec = Jvm.exec) (hb : c.code = cc) (hml : c.maxLocals = ls.size) {own : String} {index : Nat} (hown : s.vm.findClass own = some m.cls) (hlink : (Cond.methodLink own index jx_fmN).before args s = true) (hstat : (Cond.static jx_fmN).before args s = true) (hini : (Cond.initialized "java/lang/Math").before args s = true) (hcode : (Cond.code jx_fmN jx_fmB 3 (some .int)).before args s = true)
    (hframes : 1 ≤ R.frames) (hlocals : (rest.map fun v => v.category).sum + 14 ≤ R.locals) (hc : cells ≤ R.cells) (hs : slots ≤ R.slots) {x y : Int32} (hy : y ≠ 0) (hdg : decode cc pc = .ok (.invokestatic index, 3))
    (kk : W p l e R s m args below meth c H locs cells slots Q (F0 m (pc + 3) ls (.int (jx_fm x y) :: rest))) : W p l e R s m args below meth c H locs cells slots Q (F0 m pc ls (.int y :: .int x :: rest)) := by
  intro T hT X
  obtain ⟨vm', X', st⟩ := jx_fmV X hexec hown hlink hstat hini hcode (g := F0 m pc ls (.int y :: .int x :: rest)) rfl (by rw [hml]) (a := x) (b := y) hy (rest := rest) rfl (by rw [hb]; exact hdg) hframes (by show 2 * 0 + _ + 14 ≤ _; omega) hc hs
  obtain ⟨t, a1, b1⟩ := kk (T.setVm vm') hT X'
  exact ⟨t, st t a1, b1⟩
end JXF
