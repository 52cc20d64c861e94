theorem i_ge {a b : Int32} (h : ¬ a < b) : b ≤ a := by
  rw [Int32.lt_iff_toInt_lt] at h; rw [Int32.le_iff_toInt_le]; omega
theorem i_ngt {a b : Int32} (h : a < b) : ¬ b ≤ a := by
  rw [Int32.lt_iff_toInt_lt] at h; rw [Int32.le_iff_toInt_le]; omega
/-- Math.floorMod(u, 8) of a u that isn't negative (follows the library's Math.min, MathLoose.lean, and its call, StandCopy.lean) -/
def fm8spec (u : Nat) : Spec := { pre := .and (.code yJ9_floorMod_7cf53 cJ9_floorMod_7cf53 3 (some .int)) (.and (.count 2) (.and (.isInt (.arg 0)) (.and (.isInt (.arg 1)) (.and (.eq (.arg 0) (.int (nI u))) (.eq (.arg 1) (.int (nI 8))))))), post := .and .returned (.eq .result (.int (nI (u % 8)))), changes := some [] }
theorem fm8_row0 : (NativeRow.find? natives yJ9_floorMod_7cf53.cls yJ9_floorMod_7cf53.name yJ9_floorMod_7cf53.desc).isNone = true := by decide +kernel
theorem fm8_row (p : Program) : NativeRow.find? p.tables.natives yJ9_floorMod_7cf53.cls yJ9_floorMod_7cf53.name yJ9_floorMod_7cf53.desc = none := by
  cases p <;> exact Option.isNone_iff_eq_none.mp fm8_row0
theorem fm8_meets (l : Launch) {u : Nat} (hu : u < 2147483648) : MeetsLoose l yJ9_floorMod_7cf53 (fm8spec u) := by
  refine MeetsLoose.of_body_ov (code := cJ9_floorMod_7cf53) (maxLocals := 3) (ret := some .int) fm8_row ?_ ?_
  · intro args s h
    simp only [fm8spec, Cond.before_and, Bool.and_eq_true] at h
    exact h.1
  · intro p e s m args below meth c s₁ B
    have hpre := B.pre
    simp only [fm8spec, Cond.before_and, Bool.and_eq_true] at hpre
    obtain ⟨-, h1, h2, h3, h4, h5⟩ := hpre
    obtain ⟨a, b, rfl⟩ := Cond.two_ints h1 h2 h3
    have ha : a = nI u := by simpa [Cond.before, Cond.holds, Cond.value, Term.eval] using h4
    have hb : b = nI 8 := by simpa [Cond.before, Cond.holds, Cond.value, Term.eval] using h5
    subst ha; subst hb
    have hloc : argsToLocals #[.int (nI u), .int (nI 8)] 3 = #[.val (.int (nI u)), .val (.int (nI 8)), .unset] := rfl
    have h80 : ¬ nI 8 = 0 := by decide
    have hrem : nI u - nI u / nI 8 * nI 8 = nI (u % 8) := pk_rem hu (by decide) (by decide)
    have hxor : nI u ^^^ nI 8 = nI (u ^^^ 8) := z_xorN u 8
    have hpos : 0 ≤ nI (u ^^^ 8) := nI_pos' (Nat.xor_lt_two_pow (n := 31) hu (by decide))
    obtain ⟨fs, hfs⟩ := handOver_isSome (s := s₁) (some (.int (nI (u % 8)))) B.hears₁
    refine ⟨s₁.setFrames fs, .returned (some (.int (nI (u % 8)))), ?_, B.here.running, B.ended hfs (by intro h; cases h), ?_, State.sameBut_nil.mpr ?_⟩
    · unfold entryFrame; rw [hloc]
      refine Steps.instrAtOv (c := _) (by simpa using B.here) ?_
      simp [jvm, wpRun, exec, B.here.top, B.exec, B.bytes, dJ9_floorMod_7cf53_0]
      refine Steps.instrAtOv (c := _) (by simpa using B.here) ?_
      simp [jvm, wpRun, exec, B.here.top, B.exec, B.bytes, dJ9_floorMod_7cf53_1]
      refine Steps.instrAtOv (c := _) (by simpa using B.here) ?_
      simp [jvm, wpRun, exec, B.here.top, B.exec, B.bytes, dJ9_floorMod_7cf53_2, h80, hrem]
      refine Steps.instrAtOv (c := _) (by simpa using B.here) ?_
      simp [jvm, wpRun, exec, B.here.top, B.exec, B.bytes, dJ9_floorMod_7cf53_3, show storeLocals #[.val (.int (nI u)), .val (.int (nI 8)), .unset] 2 (.int (nI (u % 8))) = some #[.val (.int (nI u)), .val (.int (nI 8)), .val (.int (nI (u % 8)))] from rfl]
      refine Steps.instrAtOv (c := _) (by simpa using B.here) ?_
      simp [jvm, wpRun, exec, B.here.top, B.exec, B.bytes, dJ9_floorMod_7cf53_4]
      refine Steps.instrAtOv (c := _) (by simpa using B.here) ?_
      simp [jvm, wpRun, exec, B.here.top, B.exec, B.bytes, dJ9_floorMod_7cf53_5]
      refine Steps.instrAtOv (c := _) (by simpa using B.here) ?_
      simp [jvm, wpRun, exec, B.here.top, B.exec, B.bytes, dJ9_floorMod_7cf53_6, hxor]
      refine Steps.instrAtOv (c := _) (by simpa using B.here) ?_
      simp [jvm, wpRun, exec, B.here.top, B.exec, B.bytes, dJ9_floorMod_7cf53_7, ifCond.holds, hpos]
      refine Steps.instrAtOv (c := _) (by simpa using B.here) ?_
      simp [jvm, wpRun, exec, B.here.top, B.exec, B.bytes, dJ9_floorMod_7cf53_18]
      refine Steps.instrAtOv (c := _) (by simpa using B.here) ?_
      simp [jvm, wpRun, exec, B.here.top, B.exec, B.bytes, dJ9_floorMod_7cf53_19, B.method₁, B.returns, narrow]
      intro acts
      rw [ret_to B.frames₁ B.method₁ B.notSynchronized rfl rfl hfs]
      exact Steps.refl _
    · simp [fm8spec, Cond.after, Cond.holds, Cond.value, Term.eval]
    · rw [State.frames_setFrames _ B.cur₁, B.back]
section ZF
variable {p : Program} {l : Launch} {e : Env} {R : Room} {s : State} {m : MethodId} {args : Array Value} {below : List Frame} {meth : Method} {c : Code} {H : Heap} {locs : List Loc} {cells slots : Nat} {Q : State → Prop} {cc : ByteArray} {pc : Nat} {ls : Array Slot} {rest : List Value}
theorem z_fmod (hexec : p.tables.exec = Jvm.exec) (hb : c.code = cc) (hml : c.maxLocals = ls.size) {own : String} {index : Nat} (hown : s.vm.findClass own = some m.cls) (hlink : (Cond.methodLink own index yJ9_floorMod_7cf53).before args s = true) (hstat : (Cond.static yJ9_floorMod_7cf53).before args s = true) (hini : (Cond.initialized RJ9).before args s = true) (hcode : (Cond.code yJ9_floorMod_7cf53 cJ9_floorMod_7cf53 3 (some .int)).before args s = true)
    (hframes : 1 ≤ R.frames) (hlocals : (rest.map fun v => v.category).sum + 14 ≤ R.locals) (hc : cells ≤ R.cells) (hs : slots ≤ R.slots) {u : Nat} (hu : u < 2147483648) (hdg : decode cc pc = .ok (.invokestatic index, 3))
    (kk : W p l e R s m args below meth c H locs cells slots Q (F0 m (pc + 3) ls (.int (nI (u % 8)) :: rest))) : W p l e R s m args below meth c H locs cells slots Q (F0 m pc ls (.int (nI 8) :: .int (nI u) :: rest)) := by
  intro T hT X
  obtain ⟨v, vm', X', ⟨first, t, hpost⟩, hstep⟩ := X.staticByContractV hexec hown hlink hstat hini hcode (by decide) (fm8_meets l hu) rfl rfl rfl rfl
    (fun args' first o s₂ h => by
      simp only [fm8spec, Cond.after_and, Bool.and_eq_true] at h
      cases o with
      | returned r => exact ⟨r, rfl⟩
      | threw y => simp [Cond.after, Cond.holds, Cond.value] at h)
    (g := F0 m pc ls (.int (nI 8) :: .int (nI u) :: rest)) rfl (by rw [hml]) (argsL := [.int (nI u), .int (nI 8)]) (rest := rest)
    (fun sig hs => by
      have h : parseMethodDescriptor "(II)I" = some { parameters := [.int, .int], returnType := some .int } := by decide +kernel
      rw [show yJ9_floorMod_7cf53.desc = "(II)I" from rfl, h] at hs
      rw [← Option.some.inj hs]; rfl)
    rfl (by rw [hb]; exact hdg)
    (fun vm' hW => by
      simp only [fm8spec, Cond.before_and, Bool.and_eq_true]
      refine ⟨?_, rfl, rfl, rfl, by simp [Cond.before, Cond.holds, Cond.value, Term.eval], by simp [Cond.before, Cond.holds, Cond.value, Term.eval]⟩
      have q := hcode
      rw [← Cond.code_setVm hW.alike] at q
      exact q)
    hframes (by show 2 * 0 + _ + 14 + 0 ≤ _; omega) hc hs
  simp only [fm8spec, Cond.after_and, Bool.and_eq_true] at hpost
  have hv : v = some (.int (nI (u % 8))) := by
    have h2 := hpost.2
    cases v with
    | none => simp [Cond.after, Cond.holds, Cond.value, Term.eval] at h2
    | some w => cases w <;> simp [Cond.after, Cond.holds, Cond.value, Term.eval] at h2 ⊢; exact h2
  subst hv
  obtain ⟨t2, a1, b1⟩ := kk (T.setVm vm') hT X'
  exact ⟨t2, hstep t2 a1, b1⟩
end ZF
