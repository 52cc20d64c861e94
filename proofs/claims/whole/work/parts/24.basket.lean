theorem nX0_shiftBy_inX0 : ∀ w ∈ u_ws RX0 TX0 2, w ∈ wsX0_shiftBy := by decide +kernel
theorem nX0_scaleBy_inX0 : ∀ w ∈ u_ws RX0 TX0 2, w ∈ wsX0_scaleBy := by decide +kernel
theorem nX0_widenSpanBy_inX0 : ∀ w ∈ u_ws RX0 TX0 2, w ∈ wsX0_widenSpanBy := by decide +kernel
theorem nX0_spread_inX0 : ∀ w ∈ u_ws RX0 TX0 2, w ∈ wsX0_spread := by decide +kernel
theorem nX0_spans_inX0 : ∀ w ∈ u_ws RX0 TX0 2, w ∈ wsX0_spans := by decide +kernel
theorem nX0_becomeSpan_inX0 : ∀ w ∈ u_ws RX0 TX0 2, w ∈ wsX0_becomeSpan := by decide +kernel
theorem nX0_mixedInto_inX0 : ∀ w ∈ u_ws RX0 TX0 2, w ∈ wsX0_mixedInto := by decide +kernel
abbrev rm_c_X0_shiftBy : Room := { frames := 3, cells := 0, slots := 0, locals := 66 }
abbrev q_c_X0_shiftBy (D : va_G) (sz : Nat) (bk : Nat) (nwO : Nat) (thO : Nat) (nwH : Nat) (thH : Nat) (cN : ClassId) (cT : ClassId) (f : Nat → Bool) (T : Nat → Bool) (k : Nat) : Array Value → State → Outcome → State → Prop := va_Qi (fun r (_ : Unit) => r = (nI (cm f (shk f k 256) 256))) (fun (_ : Unit) t => va_P D vwCl [(bk, .inr (2, [.ref nwO, .ref thO])), (nwO, .inr (4, [.ref nwH])), (nwH, .inl (cN, 256, .inl (aB (shk f k 256)))), (thO, .inr (4, [.ref thH])), (thH, .inl (cT, 256, .inl (aB (shk f k 256))))] t.heap ∧ va_K D vwCl [(cN, .boolean), (cT, .boolean)] t ∧ va_D (va_A [(bk, .inr (2, [.ref nwO, .ref thO])), (nwO, .inr (4, [.ref nwH])), (nwH, .inl (cN, 256, .inl (aB f))), (thO, .inr (4, [.ref thH])), (thH, .inl (cT, 256, .inl (aB T)))] sz) [(bk, .inr (2, [.ref nwO, .ref thO])), (nwO, .inr (4, [.ref nwH])), (nwH, .inl (cN, 256, .inl (aB (shk f k 256)))), (thO, .inr (4, [.ref thH])), (thH, .inl (cT, 256, .inl (aB (shk f k 256))))]) (va_A [(bk, .inr (2, [.ref nwO, .ref thO])), (nwO, .inr (4, [.ref nwH])), (nwH, .inl (cN, 256, .inl (aB f))), (thO, .inr (4, [.ref thH])), (thH, .inl (cT, 256, .inl (aB T)))] sz)
set_option maxHeartbeats 4000000 in
set_option maxRecDepth 100000 in
theorem c_X0_shiftBy (l : Launch) (D : va_G) (sz : Nat) (bk : Nat) (nwO : Nat) (thO : Nat) (nwH : Nat) (thH : Nat) (cN : ClassId) (cT : ClassId) (f : Nat → Bool) (T : Nat → Bool) (k : Nat) (hk : k < 256) : Met l yX0_shiftBy wsX0_shiftBy rm_c_X0_shiftBy (va_Pc [.ref bk, .int (nI k)] (fun U => U.heap.size = sz ∧ va_P D vwCl [(bk, .inr (2, [.ref nwO, .ref thO])), (nwO, .inr (4, [.ref nwH])), (nwH, .inl (cN, 256, .inl (aB f))), (thO, .inr (4, [.ref thH])), (thH, .inl (cT, 256, .inl (aB T)))] U.heap ∧ va_K D vwCl [(cN, .boolean), (cT, .boolean)] U ∧ va_D (fun _ => True) [(bk, .inr (2, [.ref nwO, .ref thO])), (nwO, .inr (4, [.ref nwH])), (nwH, .inl (cN, 256, .inl (aB f))), (thO, .inr (4, [.ref thH])), (thH, .inl (cT, 256, .inl (aB T)))])) (q_c_X0_shiftBy D sz bk nwO thO nwH thH cN cT f T k) 0 0 (va_A [(bk, .inr (2, [.ref nwO, .ref thO])), (nwO, .inr (4, [.ref nwH])), (nwH, .inl (cN, 256, .inl (aB f))), (thO, .inr (4, [.ref thH])), (thH, .inl (cT, 256, .inl (aB T)))] sz) := by
  refine Met.ofW (cc := cX0_shiftBy) (maxL := 3) (ret := (some .int)) (by decide) rfl ?_
  intro p e s m args below meth c s₁ B hml hv
  obtain ⟨hargs, hsz, hP, hK, hD0⟩ := hv
  have hx := B.exec
  have hb := B.bytes
  have hr := B.returns
  have hts := atoms_spec (ws := wsX0_shiftBy) B.pre
  have hown : s.vm.findClass RX0 = some m.cls := findClass_of_methodNamed B.named
  have hlocks := B.notSynchronized
  subst hsz
  have hD := hD0.self (sz := s.heap.size)
  generalize hAe : va_A [(bk, .inr (2, [.ref nwO, .ref thO])), (nwO, .inr (4, [.ref nwH])), (nwH, .inl (cN, 256, .inl (aB f))), (thO, .inr (4, [.ref thH])), (thH, .inl (cT, 256, .inl (aB T)))] s.heap.size = A at hD ⊢
  have hA : ∀ q : Nat, s.heap.size ≤ q → A q := fun q h => by rw [← hAe]; exact Or.inr h
  have hS : va_S A s.heap s.heap [] := va_S.rf
  have hl := lv_entry ([.ref bk, .int (nI k)]) (n := 3) (Nat.le_of_ble_eq_true rfl)
  refine W.eq (g2 := F0 m 0 (lg_sl ([.ref bk, .int (nI k)]) ++ List.replicate (3 - (lg_sl ([.ref bk, .int (nI k)])).length) Slot.unset).toArray []) (by rw [hargs]; exact lg_entry_eq _ _ _) ?_
  generalize (lg_sl ([.ref bk, .int (nI k)]) ++ List.replicate (3 - (lg_sl ([.ref bk, .int (nI k)])).length) Slot.unset).toArray = ls at hl ⊢
  have hl : lv_has ls 3 [(0, .ref bk), (1, .int (nI k))] := hl
  refine lv_aload_n hx hb dX0_shiftBy_0 rfl (lv_at hl 0 rfl) ?_
  refine va_get (D := D) (ci := 2) (v := .ref thO) (C := RX0) (T := TX0) (N := 2) hx hb hts nX0_shiftBy_inX0 hown hK hP 0 rfl rfl 1 (by decide) (hts (.fieldLink RX0 18 "Gamefield$Basket" "then" "LGamefield$NumberSet;") (by decide +kernel)) (fun _ h9 => h9) rfl dX0_shiftBy_1 ?_
  have hPc := hP.sub (ws' := [(thO, .inr (4, [.ref thH])), (thH, .inl (cT, 256, .inl (aB T)))]) [3, 4] rfl
  have hDc := hD.sub (ws' := [(thO, .inr (4, [.ref thH])), (thH, .inl (cT, 256, .inl (aB T)))]) [3, 4] (by decide) rfl
  have hKc := hK.sub (tys' := [(cT, .boolean)]) [1] rfl
  have hFc := va_free (wc := [(thO, .inr (4, [.ref thH])), (thH, .inl (cT, 256, .inl (aB T)))]) hD hS hA [3, 4] rfl
  refine va_callv (va_runV (As := []) (rest := []) ⟨hx, hb, hml, hown, hts⟩ (c_X2_empty l D s.heap.size thO thH cT T ) (cwV 0 hts gX0_shiftBy_X2_empty rfl rfl rfl (by decide +kernel) ⟨Nat.le_of_ble_eq_true rfl, Nat.le_of_ble_eq_true rfl⟩) ⟨(z_fb2), va_recv hK hP (ci := 4) (q0 := 3) rfl rfl, fun U hU hW => ⟨rfl, by rw [hU], by rw [hU]; exact hPc, va_K.moved hW.alike hKc, hDc.weaken (fun _ _ _ _ => trivial)⟩⟩ rfl rfl hl.1 rfl (lv_room (Nat.le_of_ble_eq_true rfl)) dX0_shiftBy_4 ⟨Nat.le_of_ble_eq_true rfl, Nat.le_of_ble_eq_true rfl⟩) hS (fun q _ h => hFc q h) hFc (fun u4 t H locs ht hvm e4 hB hz1 hk1 hS => ?_)
  obtain ⟨hP1, hK1, hD1⟩ := hB
  rw [ht] at hP1
  obtain ⟨hP, hD⟩ := va_join (wr := [(bk, .inr (2, [.ref nwO, .ref thO])), (nwO, .inr (4, [.ref nwH])), (nwH, .inl (cN, 256, .inl (aB f)))]) (w1 := [(thO, .inr (4, [.ref thH])), (thH, .inl (cT, 256, .inl (aB (fun _ => false))))]) hP hD [3, 4] [0, 1, 2] rfl rfl (by decide) (by decide) hk1 hFc hP1 hD1
  have hP : va_P D vwCl [(bk, .inr (2, [.ref nwO, .ref thO])), (nwO, .inr (4, [.ref nwH])), (nwH, .inl (cN, 256, .inl (aB f))), (thO, .inr (4, [.ref thH])), (thH, .inl (cT, 256, .inl (aB (fun _ => false))))] H := hP
  have hD : va_D A [(bk, .inr (2, [.ref nwO, .ref thO])), (nwO, .inr (4, [.ref nwH])), (nwH, .inl (cN, 256, .inl (aB f))), (thO, .inr (4, [.ref thH])), (thH, .inl (cT, 256, .inl (aB (fun _ => false))))] := hD
  refine W.widen (k := 0) (n := 0) (Nat.le_of_ble_eq_true rfl) (Nat.le_of_ble_eq_true rfl) ?_
  refine lv_iconst (v := nI 0) hx hb dX0_shiftBy_7 zki_0 ?_
  refine lv_istore_n (lv' := [(2, .int (nI 0)), (0, .ref bk), (1, .int (nI k))]) hx hb dX0_shiftBy_8 rfl hl (by decide) rfl (fun ls hl => ?_)
  have cut_9 : ∀ (n : Nat) (i : Nat) (hi : i ≤ 256) (hn9 : 256 - i < n) (H : Heap) (locs : List Loc) (hP : va_P D vwCl [(bk, .inr (2, [.ref nwO, .ref thO])), (nwO, .inr (4, [.ref nwH])), (nwH, .inl (cN, 256, .inl (aB f))), (thO, .inr (4, [.ref thH])), (thH, .inl (cT, 256, .inl (aB (shk f k i))))] H) (hD : va_D A [(bk, .inr (2, [.ref nwO, .ref thO])), (nwO, .inr (4, [.ref nwH])), (nwH, .inl (cN, 256, .inl (aB f))), (thO, .inr (4, [.ref thH])), (thH, .inl (cT, 256, .inl (aB (shk f k i))))]) (hS : va_S A s.heap H locs) (ls : Array Slot) (hl : lv_has ls 3 [(0, .ref bk), (1, .int (nI k)), (2, .int (nI i))]), W p l e (headSpec wsX0_shiftBy rm_c_X0_shiftBy).room s m args below meth c H locs 0 0 (MQ below (q_c_X0_shiftBy D s.heap.size bk nwO thO nwH thH cN cT f T k) args s 0 0 A) (F0 m 9 ls []) := by
    intro n
    induction n with
    | zero => intro i hi hn9; exact absurd hn9 (Nat.not_lt_zero _)
    | succ n ih_9 =>
      intro i hi hn9 H locs hP hD hS ls hl
      refine lv_iload_n hx hb dX0_shiftBy_9 rfl (lv_at hl 2 rfl) ?_
      refine lv_sipush (v := nI 256) hx hb dX0_shiftBy_10 zks_256 ?_
      refine z_cge (tgt := 44) hx hb (by omega) (by omega) dX0_shiftBy_13 (by decide) (fun c_13 => ?_) (fun c_13 => ?_)
      · have hi9 : i = 256 := by omega
        refine lv_aload_n hx hb dX0_shiftBy_44 rfl (lv_at hl 0 rfl) ?_
        refine va_get (D := D) (ci := 2) (v := .ref nwO) (C := RX0) (T := TX0) (N := 2) hx hb hts nX0_shiftBy_inX0 hown hK hP 0 rfl rfl 0 (by decide) (hts (.fieldLink RX0 12 "Gamefield$Basket" "now" "LGamefield$NumberSet;") (by decide +kernel)) (fun _ h9 => h9) rfl dX0_shiftBy_45 ?_
        refine lv_aload_n hx hb dX0_shiftBy_48 rfl (lv_at hl 0 rfl) ?_
        refine va_get (D := D) (ci := 2) (v := .ref thO) (C := RX0) (T := TX0) (N := 2) hx hb hts nX0_shiftBy_inX0 hown hK hP 0 rfl rfl 1 (by decide) (hts (.fieldLink RX0 18 "Gamefield$Basket" "then" "LGamefield$NumberSet;") (by decide +kernel)) (fun _ h9 => h9) rfl dX0_shiftBy_49 ?_
        have hPc := hP.sub (ws' := [(nwO, .inr (4, [.ref nwH])), (nwH, .inl (cN, 256, .inl (aB f))), (thO, .inr (4, [.ref thH])), (thH, .inl (cT, 256, .inl (aB (shk f k i))))]) [1, 2, 3, 4] rfl
        have hDc := hD.sub (ws' := [(nwO, .inr (4, [.ref nwH])), (nwH, .inl (cN, 256, .inl (aB f))), (thO, .inr (4, [.ref thH])), (thH, .inl (cT, 256, .inl (aB (shk f k i))))]) [1, 2, 3, 4] (by decide) rfl
        have hKc := hK.sub (tys' := [(cN, .boolean), (cT, .boolean)]) [0, 1] rfl
        have hFc := va_free (wc := [(nwO, .inr (4, [.ref nwH])), (nwH, .inl (cN, 256, .inl (aB f))), (thO, .inr (4, [.ref thH])), (thH, .inl (cT, 256, .inl (aB (shk f k i))))]) hD hS hA [1, 2, 3, 4] rfl
        refine va_calli (va_runV (As := [.ref thO]) (rest := []) ⟨hx, hb, hml, hown, hts⟩ (c_X2_become l D H.size nwO nwH cN f thO thH cT (shk f k i) ) (cwV 1 hts gX0_shiftBy_X2_become rfl rfl rfl (by decide +kernel) ⟨Nat.le_of_ble_eq_true rfl, Nat.le_of_ble_eq_true rfl⟩) ⟨(z_fb2), va_recv hK hP (ci := 4) (q0 := 1) rfl rfl, fun U hU hW => ⟨rfl, by rw [hU], by rw [hU]; exact hPc, va_K.moved hW.alike hKc, hDc.weaken (fun _ _ _ _ => trivial)⟩⟩ rfl rfl hl.1 rfl (lv_room (Nat.le_of_ble_eq_true rfl)) dX0_shiftBy_52 ⟨Nat.le_of_ble_eq_true rfl, Nat.le_of_ble_eq_true rfl⟩) hS (fun q _ h => hFc q h) hFc (fun r52 u52 t H locs ht hvm e52 hB hz1 hk1 hS => ?_)
        obtain ⟨hP1, hK1, hD1⟩ := hB
        rw [ht] at hP1
        obtain ⟨hP, hD⟩ := va_join (wr := [(bk, .inr (2, [.ref nwO, .ref thO]))]) (w1 := [(nwO, .inr (4, [.ref nwH])), (nwH, .inl (cN, 256, .inl (aB (shk f k i)))), (thO, .inr (4, [.ref thH])), (thH, .inl (cT, 256, .inl (aB (shk f k i))))]) hP hD [1, 2, 3, 4] [0] rfl rfl (by decide) (by decide) hk1 hFc hP1 hD1
        have hP : va_P D vwCl [(bk, .inr (2, [.ref nwO, .ref thO])), (nwO, .inr (4, [.ref nwH])), (nwH, .inl (cN, 256, .inl (aB (shk f k i)))), (thO, .inr (4, [.ref thH])), (thH, .inl (cT, 256, .inl (aB (shk f k i))))] H := hP
        have hD : va_D A [(bk, .inr (2, [.ref nwO, .ref thO])), (nwO, .inr (4, [.ref nwH])), (nwH, .inl (cN, 256, .inl (aB (shk f k i)))), (thO, .inr (4, [.ref thH])), (thH, .inl (cT, 256, .inl (aB (shk f k i))))] := hD
        refine W.widen (k := 0) (n := 0) (Nat.le_of_ble_eq_true rfl) (Nat.le_of_ble_eq_true rfl) ?_
        subst e52
        have hP9 := hP.sub (ws' := [(bk, .inr (2, [.ref nwO, .ref thO])), (nwO, .inr (4, [.ref nwH])), (nwH, .inl (cN, 256, .inl (aB (shk f k i)))), (thO, .inr (4, [.ref thH])), (thH, .inl (cT, 256, .inl (aB (shk f k i))))]) [0, 1, 2, 3, 4] rfl
        have hD9 := hD.sub (ws' := [(bk, .inr (2, [.ref nwO, .ref thO])), (nwO, .inr (4, [.ref nwH])), (nwH, .inl (cN, 256, .inl (aB (shk f k i)))), (thO, .inr (4, [.ref thH])), (thH, .inl (cT, 256, .inl (aB (shk f k i))))]) [0, 1, 2, 3, 4] (by decide) rfl
        rw [hi9] at hP9 hD9
        have hK9 := hK.sub (tys' := [(cN, .boolean), (cT, .boolean)]) [0, 1] rfl
        subst hAe
        refine W.widen (k := 0) (n := 0) (Nat.le_of_ble_eq_true rfl) (Nat.le_of_ble_eq_true rfl) ?_
        exact W.iret hx hb hr (fun t ht hW => ⟨⟨_, (), rfl, (by rw [hi9]), by rw [ht]; exact hP9, va_K.moved hW.alike hK9, hD9⟩, hS.F ht⟩) hS.2.2 dX0_shiftBy_55
      · refine lv_aload_n hx hb dX0_shiftBy_16 rfl (lv_at hl 0 rfl) ?_
        refine va_get (D := D) (ci := 2) (v := .ref nwO) (C := RX0) (T := TX0) (N := 2) hx hb hts nX0_shiftBy_inX0 hown hK hP 0 rfl rfl 0 (by decide) (hts (.fieldLink RX0 12 "Gamefield$Basket" "now" "LGamefield$NumberSet;") (by decide +kernel)) (fun _ h9 => h9) rfl dX0_shiftBy_17 ?_
        refine lv_iload_n hx hb dX0_shiftBy_20 rfl (lv_at hl 2 rfl) ?_
        refine z_ci (va_runV (As := [.int (nI i)]) (rest := []) ⟨hx, hb, hml, hown, hts⟩ (c_X2_contains l D nwO nwH cN f i (by omega)) (cwV 1 hts gX0_shiftBy_X2_contains rfl rfl rfl (by decide +kernel) ⟨Nat.le_of_ble_eq_true rfl, Nat.le_of_ble_eq_true rfl⟩) ⟨(z_fb1), va_recv hK hP (ci := 4) (q0 := 1) rfl rfl, fun U hU hW => ⟨rfl, by rw [hU]; exact (hP.sub (ws' := [(nwO, .inr (4, [.ref nwH])), (nwH, .inl (cN, 256, .inl (aB f)))]) [1, 2] rfl), va_K.moved hW.alike (hK.sub [0] rfl)⟩⟩ rfl rfl hl.1 rfl (lv_room (Nat.le_of_ble_eq_true rfl)) dX0_shiftBy_21 ⟨Nat.le_of_ble_eq_true rfl, Nat.le_of_ble_eq_true rfl⟩) (fun r21 e21 => ?_)
        subst e21
        refine z_beq (tgt := 38) hx hb dX0_shiftBy_24 (by decide) (fun c_24 => ?_) (fun c_24 => ?_)
        · have e9 : shk f k i = shk f k (i + 1) := by rw [shk, c_24]; rfl
          refine lv_iinc (v := (nI (i + 1))) (lv' := [(2, .int (nI (i + 1))), (0, .ref bk), (1, .int (nI k))]) hx hb dX0_shiftBy_38 hl (k := 2) rfl (z_inc i 1) (by decide) rfl (fun ls hl => ?_)
          refine lv_goto (tgt := 9) hx hb dX0_shiftBy_41 (by decide) ?_
          have hP : va_P D vwCl [(bk, .inr (2, [.ref nwO, .ref thO])), (nwO, .inr (4, [.ref nwH])), (nwH, .inl (cN, 256, .inl (aB f))), (thO, .inr (4, [.ref thH])), (thH, .inl (cT, 256, .inl (aB (shk f k (i + 1)))))] H := Eq.mp (congrArg (fun z9 => va_P D vwCl [(bk, .inr (2, [.ref nwO, .ref thO])), (nwO, .inr (4, [.ref nwH])), (nwH, .inl (cN, 256, .inl (aB f))), (thO, .inr (4, [.ref thH])), (thH, .inl (cT, 256, .inl (aB z9)))] H) ((show shk f k i = shk f k (i + 1) from e9))) hP
          have hD : va_D A [(bk, .inr (2, [.ref nwO, .ref thO])), (nwO, .inr (4, [.ref nwH])), (nwH, .inl (cN, 256, .inl (aB f))), (thO, .inr (4, [.ref thH])), (thH, .inl (cT, 256, .inl (aB (shk f k (i + 1)))))] := Eq.mp (congrArg (fun z9 => va_D A [(bk, .inr (2, [.ref nwO, .ref thO])), (nwO, .inr (4, [.ref nwH])), (nwH, .inl (cN, 256, .inl (aB f))), (thO, .inr (4, [.ref thH])), (thH, .inl (cT, 256, .inl (aB z9)))]) ((show shk f k i = shk f k (i + 1) from e9))) hD
          exact ih_9 (i + 1) (by omega) (by omega) H locs hP hD hS ls (lv_sub hl [1, 2, 0] rfl)
        · have e9 : va_up (shk f k i) (i ^^^ k) true = shk f k (i + 1) := by rw [shk, if_pos c_24]
          refine lv_aload_n hx hb dX0_shiftBy_27 rfl (lv_at hl 0 rfl) ?_
          refine va_get (D := D) (ci := 2) (v := .ref thO) (C := RX0) (T := TX0) (N := 2) hx hb hts nX0_shiftBy_inX0 hown hK hP 0 rfl rfl 1 (by decide) (hts (.fieldLink RX0 18 "Gamefield$Basket" "then" "LGamefield$NumberSet;") (by decide +kernel)) (fun _ h9 => h9) rfl dX0_shiftBy_28 ?_
          refine lv_iload_n hx hb dX0_shiftBy_31 rfl (lv_at hl 2 rfl) ?_
          refine lv_iload_n hx hb dX0_shiftBy_32 rfl (lv_at hl 1 rfl) ?_
          refine z_xor hx hb dX0_shiftBy_33 ?_
          have hPc := hP.sub (ws' := [(thO, .inr (4, [.ref thH])), (thH, .inl (cT, 256, .inl (aB (shk f k i))))]) [3, 4] rfl
          have hDc := hD.sub (ws' := [(thO, .inr (4, [.ref thH])), (thH, .inl (cT, 256, .inl (aB (shk f k i))))]) [3, 4] (by decide) rfl
          have hKc := hK.sub (tys' := [(cT, .boolean)]) [1] rfl
          have hFc := va_free (wc := [(thO, .inr (4, [.ref thH])), (thH, .inl (cT, 256, .inl (aB (shk f k i))))]) hD hS hA [3, 4] rfl
          refine va_calli (va_runV (As := [.int (nI (i ^^^ k))]) (rest := []) ⟨hx, hb, hml, hown, hts⟩ (c_X2_add l D H.size thO thH cT (shk f k i) (i ^^^ k) (zx8 (by omega) hk)) (cwV 1 hts gX0_shiftBy_X2_add rfl rfl rfl (by decide +kernel) ⟨Nat.le_of_ble_eq_true rfl, Nat.le_of_ble_eq_true rfl⟩) ⟨(z_fb2), va_recv hK hP (ci := 4) (q0 := 3) rfl rfl, fun U hU hW => ⟨rfl, by rw [hU], by rw [hU]; exact hPc, va_K.moved hW.alike hKc, hDc.weaken (fun _ _ _ _ => trivial)⟩⟩ rfl rfl hl.1 rfl (lv_room (Nat.le_of_ble_eq_true rfl)) dX0_shiftBy_34 ⟨Nat.le_of_ble_eq_true rfl, Nat.le_of_ble_eq_true rfl⟩) hS (fun q _ h => hFc q h) hFc (fun r34 u34 t H locs ht hvm e34 hB hz1 hk1 hS => ?_)
          obtain ⟨hP1, hK1, hD1⟩ := hB
          rw [ht] at hP1
          obtain ⟨hP, hD⟩ := va_join (wr := [(bk, .inr (2, [.ref nwO, .ref thO])), (nwO, .inr (4, [.ref nwH])), (nwH, .inl (cN, 256, .inl (aB f)))]) (w1 := [(thO, .inr (4, [.ref thH])), (thH, .inl (cT, 256, .inl (aB (va_up (shk f k i) (i ^^^ k) true))))]) hP hD [3, 4] [0, 1, 2] rfl rfl (by decide) (by decide) hk1 hFc hP1 hD1
          have hP : va_P D vwCl [(bk, .inr (2, [.ref nwO, .ref thO])), (nwO, .inr (4, [.ref nwH])), (nwH, .inl (cN, 256, .inl (aB f))), (thO, .inr (4, [.ref thH])), (thH, .inl (cT, 256, .inl (aB (va_up (shk f k i) (i ^^^ k) true))))] H := hP
          have hD : va_D A [(bk, .inr (2, [.ref nwO, .ref thO])), (nwO, .inr (4, [.ref nwH])), (nwH, .inl (cN, 256, .inl (aB f))), (thO, .inr (4, [.ref thH])), (thH, .inl (cT, 256, .inl (aB (va_up (shk f k i) (i ^^^ k) true))))] := hD
          refine W.widen (k := 0) (n := 0) (Nat.le_of_ble_eq_true rfl) (Nat.le_of_ble_eq_true rfl) ?_
          subst e34
          refine lv_pop hx hb dX0_shiftBy_37 rfl ?_
          refine lv_iinc (v := (nI (i + 1))) (lv' := [(2, .int (nI (i + 1))), (0, .ref bk), (1, .int (nI k))]) hx hb dX0_shiftBy_38 hl (k := 2) rfl (z_inc i 1) (by decide) rfl (fun ls hl => ?_)
          refine lv_goto (tgt := 9) hx hb dX0_shiftBy_41 (by decide) ?_
          have hP : va_P D vwCl [(bk, .inr (2, [.ref nwO, .ref thO])), (nwO, .inr (4, [.ref nwH])), (nwH, .inl (cN, 256, .inl (aB f))), (thO, .inr (4, [.ref thH])), (thH, .inl (cT, 256, .inl (aB (shk f k (i + 1)))))] H := Eq.mp (congrArg (fun z9 => va_P D vwCl [(bk, .inr (2, [.ref nwO, .ref thO])), (nwO, .inr (4, [.ref nwH])), (nwH, .inl (cN, 256, .inl (aB f))), (thO, .inr (4, [.ref thH])), (thH, .inl (cT, 256, .inl (aB z9)))] H) ((show va_up (shk f k i) (i ^^^ k) true = shk f k (i + 1) from e9))) hP
          have hD : va_D A [(bk, .inr (2, [.ref nwO, .ref thO])), (nwO, .inr (4, [.ref nwH])), (nwH, .inl (cN, 256, .inl (aB f))), (thO, .inr (4, [.ref thH])), (thH, .inl (cT, 256, .inl (aB (shk f k (i + 1)))))] := Eq.mp (congrArg (fun z9 => va_D A [(bk, .inr (2, [.ref nwO, .ref thO])), (nwO, .inr (4, [.ref nwH])), (nwH, .inl (cN, 256, .inl (aB f))), (thO, .inr (4, [.ref thH])), (thH, .inl (cT, 256, .inl (aB z9)))]) ((show va_up (shk f k i) (i ^^^ k) true = shk f k (i + 1) from e9))) hD
          exact ih_9 (i + 1) (by omega) (by omega) H locs hP hD hS ls (lv_sub hl [1, 2, 0] rfl)
  have hP : va_P D vwCl [(bk, .inr (2, [.ref nwO, .ref thO])), (nwO, .inr (4, [.ref nwH])), (nwH, .inl (cN, 256, .inl (aB f))), (thO, .inr (4, [.ref thH])), (thH, .inl (cT, 256, .inl (aB (shk f k 0))))] H := Eq.mp (congrArg (fun z9 => va_P D vwCl [(bk, .inr (2, [.ref nwO, .ref thO])), (nwO, .inr (4, [.ref nwH])), (nwH, .inl (cN, 256, .inl (aB f))), (thO, .inr (4, [.ref thH])), (thH, .inl (cT, 256, .inl (aB z9)))] H) ((show (fun _ => false) = shk f k 0 from rfl))) hP
  have hD : va_D A [(bk, .inr (2, [.ref nwO, .ref thO])), (nwO, .inr (4, [.ref nwH])), (nwH, .inl (cN, 256, .inl (aB f))), (thO, .inr (4, [.ref thH])), (thH, .inl (cT, 256, .inl (aB (shk f k 0))))] := Eq.mp (congrArg (fun z9 => va_D A [(bk, .inr (2, [.ref nwO, .ref thO])), (nwO, .inr (4, [.ref nwH])), (nwH, .inl (cN, 256, .inl (aB f))), (thO, .inr (4, [.ref thH])), (thH, .inl (cT, 256, .inl (aB z9)))]) ((show (fun _ => false) = shk f k 0 from rfl))) hD
  exact cut_9 ((256 - 0) + 1) 0 (by omega) (Nat.lt_succ_self _) H locs hP hD hS ls (lv_sub hl [1, 2, 0] rfl)
abbrev rm_c_X0_scaleBy : Room := { frames := 3, cells := 0, slots := 0, locals := 66 }
abbrev q_c_X0_scaleBy (D : va_G) (sz : Nat) (bk : Nat) (nwO : Nat) (thO : Nat) (nwH : Nat) (thH : Nat) (cN : ClassId) (cT : ClassId) (f : Nat → Bool) (T : Nat → Bool) (nm : Nat) (tT : Nat) (mS : Nat) (cI : ClassId) (k : Nat) : Array Value → State → Outcome → State → Prop := va_Qi (fun r (_ : Unit) => r = (nI (cn (sck f k 256) 256))) (fun (_ : Unit) t => va_P D vwCl [(bk, .inr (2, [.ref nwO, .ref thO])), (nwO, .inr (4, [.ref nwH])), (nwH, .inl (cN, 256, .inl (aB (sck f k 256)))), (thO, .inr (4, [.ref thH])), (thH, .inl (cT, 256, .inl (aB (sck f k 256)))), (nm, .inr (5, [.ref tT, .ref mS])), (tT, .inl (cI, 256, .inl (aN ztab)))] t.heap ∧ va_K D vwCl [(cN, .boolean), (cT, .boolean), (cI, .int)] t ∧ va_D (va_A [(bk, .inr (2, [.ref nwO, .ref thO])), (nwO, .inr (4, [.ref nwH])), (nwH, .inl (cN, 256, .inl (aB f))), (thO, .inr (4, [.ref thH])), (thH, .inl (cT, 256, .inl (aB T))), (nm, .inr (5, [.ref tT, .ref mS])), (tT, .inl (cI, 256, .inl (aN ztab)))] sz) [(bk, .inr (2, [.ref nwO, .ref thO])), (nwO, .inr (4, [.ref nwH])), (nwH, .inl (cN, 256, .inl (aB (sck f k 256)))), (thO, .inr (4, [.ref thH])), (thH, .inl (cT, 256, .inl (aB (sck f k 256)))), (nm, .inr (5, [.ref tT, .ref mS])), (tT, .inl (cI, 256, .inl (aN ztab)))]) (va_A [(bk, .inr (2, [.ref nwO, .ref thO])), (nwO, .inr (4, [.ref nwH])), (nwH, .inl (cN, 256, .inl (aB f))), (thO, .inr (4, [.ref thH])), (thH, .inl (cT, 256, .inl (aB T))), (nm, .inr (5, [.ref tT, .ref mS])), (tT, .inl (cI, 256, .inl (aN ztab)))] sz)
set_option maxHeartbeats 4000000 in
set_option maxRecDepth 100000 in
theorem c_X0_scaleBy (l : Launch) (D : va_G) (sz : Nat) (bk : Nat) (nwO : Nat) (thO : Nat) (nwH : Nat) (thH : Nat) (cN : ClassId) (cT : ClassId) (f : Nat → Bool) (T : Nat → Bool) (nm : Nat) (tT : Nat) (mS : Nat) (cI : ClassId) (k : Nat) (hk : k < 256) : Met l yX0_scaleBy wsX0_scaleBy rm_c_X0_scaleBy (va_Pc [.ref bk, .int (nI k), .ref nm] (fun U => U.heap.size = sz ∧ va_P D vwCl [(bk, .inr (2, [.ref nwO, .ref thO])), (nwO, .inr (4, [.ref nwH])), (nwH, .inl (cN, 256, .inl (aB f))), (thO, .inr (4, [.ref thH])), (thH, .inl (cT, 256, .inl (aB T))), (nm, .inr (5, [.ref tT, .ref mS])), (tT, .inl (cI, 256, .inl (aN ztab)))] U.heap ∧ va_K D vwCl [(cN, .boolean), (cT, .boolean), (cI, .int)] U ∧ va_D (fun _ => True) [(bk, .inr (2, [.ref nwO, .ref thO])), (nwO, .inr (4, [.ref nwH])), (nwH, .inl (cN, 256, .inl (aB f))), (thO, .inr (4, [.ref thH])), (thH, .inl (cT, 256, .inl (aB T))), (nm, .inr (5, [.ref tT, .ref mS])), (tT, .inl (cI, 256, .inl (aN ztab)))])) (q_c_X0_scaleBy D sz bk nwO thO nwH thH cN cT f T nm tT mS cI k) 0 0 (va_A [(bk, .inr (2, [.ref nwO, .ref thO])), (nwO, .inr (4, [.ref nwH])), (nwH, .inl (cN, 256, .inl (aB f))), (thO, .inr (4, [.ref thH])), (thH, .inl (cT, 256, .inl (aB T))), (nm, .inr (5, [.ref tT, .ref mS])), (tT, .inl (cI, 256, .inl (aN ztab)))] sz) := by
  refine Met.ofW (cc := cX0_scaleBy) (maxL := 4) (ret := (some .int)) (by decide) rfl ?_
  intro p e s m args below meth c s₁ B hml hv
  obtain ⟨hargs, hsz, hP, hK, hD0⟩ := hv
  have hx := B.exec
  have hb := B.bytes
  have hr := B.returns
  have hts := atoms_spec (ws := wsX0_scaleBy) B.pre
  have hown : s.vm.findClass RX0 = some m.cls := findClass_of_methodNamed B.named
  have hlocks := B.notSynchronized
  subst hsz
  have hD := hD0.self (sz := s.heap.size)
  generalize hAe : va_A [(bk, .inr (2, [.ref nwO, .ref thO])), (nwO, .inr (4, [.ref nwH])), (nwH, .inl (cN, 256, .inl (aB f))), (thO, .inr (4, [.ref thH])), (thH, .inl (cT, 256, .inl (aB T))), (nm, .inr (5, [.ref tT, .ref mS])), (tT, .inl (cI, 256, .inl (aN ztab)))] s.heap.size = A at hD ⊢
  have hA : ∀ q : Nat, s.heap.size ≤ q → A q := fun q h => by rw [← hAe]; exact Or.inr h
  have hS : va_S A s.heap s.heap [] := va_S.rf
  have hl := lv_entry ([.ref bk, .int (nI k), .ref nm]) (n := 4) (Nat.le_of_ble_eq_true rfl)
  refine W.eq (g2 := F0 m 0 (lg_sl ([.ref bk, .int (nI k), .ref nm]) ++ List.replicate (4 - (lg_sl ([.ref bk, .int (nI k), .ref nm])).length) Slot.unset).toArray []) (by rw [hargs]; exact lg_entry_eq _ _ _) ?_
  generalize (lg_sl ([.ref bk, .int (nI k), .ref nm]) ++ List.replicate (4 - (lg_sl ([.ref bk, .int (nI k), .ref nm])).length) Slot.unset).toArray = ls at hl ⊢
  have hl : lv_has ls 4 [(0, .ref bk), (1, .int (nI k)), (2, .ref nm)] := hl
  refine lv_aload_n hx hb dX0_scaleBy_0 rfl (lv_at hl 0 rfl) ?_
  refine va_get (D := D) (ci := 2) (v := .ref thO) (C := RX0) (T := TX0) (N := 2) hx hb hts nX0_scaleBy_inX0 hown hK hP 0 rfl rfl 1 (by decide) (hts (.fieldLink RX0 18 "Gamefield$Basket" "then" "LGamefield$NumberSet;") (by decide +kernel)) (fun _ h9 => h9) rfl dX0_scaleBy_1 ?_
  have hPc := hP.sub (ws' := [(thO, .inr (4, [.ref thH])), (thH, .inl (cT, 256, .inl (aB T)))]) [3, 4] rfl
  have hDc := hD.sub (ws' := [(thO, .inr (4, [.ref thH])), (thH, .inl (cT, 256, .inl (aB T)))]) [3, 4] (by decide) rfl
  have hKc := hK.sub (tys' := [(cT, .boolean)]) [1] rfl
  have hFc := va_free (wc := [(thO, .inr (4, [.ref thH])), (thH, .inl (cT, 256, .inl (aB T)))]) hD hS hA [3, 4] rfl
  refine va_callv (va_runV (As := []) (rest := []) ⟨hx, hb, hml, hown, hts⟩ (c_X2_empty l D s.heap.size thO thH cT T ) (cwV 0 hts gX0_scaleBy_X2_empty rfl rfl rfl (by decide +kernel) ⟨Nat.le_of_ble_eq_true rfl, Nat.le_of_ble_eq_true rfl⟩) ⟨(z_fb2), va_recv hK hP (ci := 4) (q0 := 3) rfl rfl, fun U hU hW => ⟨rfl, by rw [hU], by rw [hU]; exact hPc, va_K.moved hW.alike hKc, hDc.weaken (fun _ _ _ _ => trivial)⟩⟩ rfl rfl hl.1 rfl (lv_room (Nat.le_of_ble_eq_true rfl)) dX0_scaleBy_4 ⟨Nat.le_of_ble_eq_true rfl, Nat.le_of_ble_eq_true rfl⟩) hS (fun q _ h => hFc q h) hFc (fun u4 t H locs ht hvm e4 hB hz1 hk1 hS => ?_)
  obtain ⟨hP1, hK1, hD1⟩ := hB
  rw [ht] at hP1
  obtain ⟨hP, hD⟩ := va_join (wr := [(bk, .inr (2, [.ref nwO, .ref thO])), (nwO, .inr (4, [.ref nwH])), (nwH, .inl (cN, 256, .inl (aB f))), (nm, .inr (5, [.ref tT, .ref mS])), (tT, .inl (cI, 256, .inl (aN ztab)))]) (w1 := [(thO, .inr (4, [.ref thH])), (thH, .inl (cT, 256, .inl (aB (fun _ => false))))]) hP hD [3, 4] [0, 1, 2, 5, 6] rfl rfl (by decide) (by decide) hk1 hFc hP1 hD1
  have hP : va_P D vwCl [(bk, .inr (2, [.ref nwO, .ref thO])), (nwO, .inr (4, [.ref nwH])), (nwH, .inl (cN, 256, .inl (aB f))), (nm, .inr (5, [.ref tT, .ref mS])), (tT, .inl (cI, 256, .inl (aN ztab))), (thO, .inr (4, [.ref thH])), (thH, .inl (cT, 256, .inl (aB (fun _ => false))))] H := hP
  have hD : va_D A [(bk, .inr (2, [.ref nwO, .ref thO])), (nwO, .inr (4, [.ref nwH])), (nwH, .inl (cN, 256, .inl (aB f))), (nm, .inr (5, [.ref tT, .ref mS])), (tT, .inl (cI, 256, .inl (aN ztab))), (thO, .inr (4, [.ref thH])), (thH, .inl (cT, 256, .inl (aB (fun _ => false))))] := hD
  refine W.widen (k := 0) (n := 0) (Nat.le_of_ble_eq_true rfl) (Nat.le_of_ble_eq_true rfl) ?_
  refine lv_iconst (v := nI 0) hx hb dX0_scaleBy_7 zki_0 ?_
  refine lv_istore_n (lv' := [(3, .int (nI 0)), (0, .ref bk), (1, .int (nI k)), (2, .ref nm)]) hx hb dX0_scaleBy_8 rfl hl (by decide) rfl (fun ls hl => ?_)
  have cut_9 : ∀ (n : Nat) (i : Nat) (hi : i ≤ 256) (hn9 : 256 - i < n) (H : Heap) (locs : List Loc) (hP : va_P D vwCl [(bk, .inr (2, [.ref nwO, .ref thO])), (nwO, .inr (4, [.ref nwH])), (nwH, .inl (cN, 256, .inl (aB f))), (thO, .inr (4, [.ref thH])), (thH, .inl (cT, 256, .inl (aB (sck f k i)))), (nm, .inr (5, [.ref tT, .ref mS])), (tT, .inl (cI, 256, .inl (aN ztab)))] H) (hD : va_D A [(bk, .inr (2, [.ref nwO, .ref thO])), (nwO, .inr (4, [.ref nwH])), (nwH, .inl (cN, 256, .inl (aB f))), (thO, .inr (4, [.ref thH])), (thH, .inl (cT, 256, .inl (aB (sck f k i)))), (nm, .inr (5, [.ref tT, .ref mS])), (tT, .inl (cI, 256, .inl (aN ztab)))]) (hS : va_S A s.heap H locs) (ls : Array Slot) (hl : lv_has ls 4 [(0, .ref bk), (1, .int (nI k)), (2, .ref nm), (3, .int (nI i))]), W p l e (headSpec wsX0_scaleBy rm_c_X0_scaleBy).room s m args below meth c H locs 0 0 (MQ below (q_c_X0_scaleBy D s.heap.size bk nwO thO nwH thH cN cT f T nm tT mS cI k) args s 0 0 A) (F0 m 9 ls []) := by
    intro n
    induction n with
    | zero => intro i hi hn9; exact absurd hn9 (Nat.not_lt_zero _)
    | succ n ih_9 =>
      intro i hi hn9 H locs hP hD hS ls hl
      refine lv_iload_n hx hb dX0_scaleBy_9 rfl (lv_at hl 3 rfl) ?_
      refine lv_sipush (v := nI 256) hx hb dX0_scaleBy_10 zks_256 ?_
      refine z_cge (tgt := 47) hx hb (by omega) (by omega) dX0_scaleBy_13 (by decide) (fun c_13 => ?_) (fun c_13 => ?_)
      · have hi9 : i = 256 := by omega
        refine lv_aload_n hx hb dX0_scaleBy_47 rfl (lv_at hl 0 rfl) ?_
        refine va_get (D := D) (ci := 2) (v := .ref nwO) (C := RX0) (T := TX0) (N := 2) hx hb hts nX0_scaleBy_inX0 hown hK hP 0 rfl rfl 0 (by decide) (hts (.fieldLink RX0 12 "Gamefield$Basket" "now" "LGamefield$NumberSet;") (by decide +kernel)) (fun _ h9 => h9) rfl dX0_scaleBy_48 ?_
        refine lv_aload_n hx hb dX0_scaleBy_51 rfl (lv_at hl 0 rfl) ?_
        refine va_get (D := D) (ci := 2) (v := .ref thO) (C := RX0) (T := TX0) (N := 2) hx hb hts nX0_scaleBy_inX0 hown hK hP 0 rfl rfl 1 (by decide) (hts (.fieldLink RX0 18 "Gamefield$Basket" "then" "LGamefield$NumberSet;") (by decide +kernel)) (fun _ h9 => h9) rfl dX0_scaleBy_52 ?_
        have hPc := hP.sub (ws' := [(nwO, .inr (4, [.ref nwH])), (nwH, .inl (cN, 256, .inl (aB f))), (thO, .inr (4, [.ref thH])), (thH, .inl (cT, 256, .inl (aB (sck f k i))))]) [1, 2, 3, 4] rfl
        have hDc := hD.sub (ws' := [(nwO, .inr (4, [.ref nwH])), (nwH, .inl (cN, 256, .inl (aB f))), (thO, .inr (4, [.ref thH])), (thH, .inl (cT, 256, .inl (aB (sck f k i))))]) [1, 2, 3, 4] (by decide) rfl
        have hKc := hK.sub (tys' := [(cN, .boolean), (cT, .boolean)]) [0, 1] rfl
        have hFc := va_free (wc := [(nwO, .inr (4, [.ref nwH])), (nwH, .inl (cN, 256, .inl (aB f))), (thO, .inr (4, [.ref thH])), (thH, .inl (cT, 256, .inl (aB (sck f k i))))]) hD hS hA [1, 2, 3, 4] rfl
        refine va_calli (va_runV (As := [.ref thO]) (rest := []) ⟨hx, hb, hml, hown, hts⟩ (c_X2_become l D H.size nwO nwH cN f thO thH cT (sck f k i) ) (cwV 1 hts gX0_scaleBy_X2_become rfl rfl rfl (by decide +kernel) ⟨Nat.le_of_ble_eq_true rfl, Nat.le_of_ble_eq_true rfl⟩) ⟨(z_fb2), va_recv hK hP (ci := 4) (q0 := 1) rfl rfl, fun U hU hW => ⟨rfl, by rw [hU], by rw [hU]; exact hPc, va_K.moved hW.alike hKc, hDc.weaken (fun _ _ _ _ => trivial)⟩⟩ rfl rfl hl.1 rfl (lv_room (Nat.le_of_ble_eq_true rfl)) dX0_scaleBy_55 ⟨Nat.le_of_ble_eq_true rfl, Nat.le_of_ble_eq_true rfl⟩) hS (fun q _ h => hFc q h) hFc (fun r55 u55 t H locs ht hvm e55 hB hz1 hk1 hS => ?_)
        obtain ⟨hP1, hK1, hD1⟩ := hB
        rw [ht] at hP1
        obtain ⟨hP, hD⟩ := va_join (wr := [(bk, .inr (2, [.ref nwO, .ref thO])), (nm, .inr (5, [.ref tT, .ref mS])), (tT, .inl (cI, 256, .inl (aN ztab)))]) (w1 := [(nwO, .inr (4, [.ref nwH])), (nwH, .inl (cN, 256, .inl (aB (sck f k i)))), (thO, .inr (4, [.ref thH])), (thH, .inl (cT, 256, .inl (aB (sck f k i))))]) hP hD [1, 2, 3, 4] [0, 5, 6] rfl rfl (by decide) (by decide) hk1 hFc hP1 hD1
        have hP : va_P D vwCl [(bk, .inr (2, [.ref nwO, .ref thO])), (nm, .inr (5, [.ref tT, .ref mS])), (tT, .inl (cI, 256, .inl (aN ztab))), (nwO, .inr (4, [.ref nwH])), (nwH, .inl (cN, 256, .inl (aB (sck f k i)))), (thO, .inr (4, [.ref thH])), (thH, .inl (cT, 256, .inl (aB (sck f k i))))] H := hP
        have hD : va_D A [(bk, .inr (2, [.ref nwO, .ref thO])), (nm, .inr (5, [.ref tT, .ref mS])), (tT, .inl (cI, 256, .inl (aN ztab))), (nwO, .inr (4, [.ref nwH])), (nwH, .inl (cN, 256, .inl (aB (sck f k i)))), (thO, .inr (4, [.ref thH])), (thH, .inl (cT, 256, .inl (aB (sck f k i))))] := hD
        refine W.widen (k := 0) (n := 0) (Nat.le_of_ble_eq_true rfl) (Nat.le_of_ble_eq_true rfl) ?_
        subst e55
        refine lv_pop hx hb dX0_scaleBy_58 rfl ?_
        refine lv_aload_n hx hb dX0_scaleBy_59 rfl (lv_at hl 0 rfl) ?_
        refine va_get (D := D) (ci := 2) (v := .ref nwO) (C := RX0) (T := TX0) (N := 2) hx hb hts nX0_scaleBy_inX0 hown hK hP 0 rfl rfl 0 (by decide) (hts (.fieldLink RX0 12 "Gamefield$Basket" "now" "LGamefield$NumberSet;") (by decide +kernel)) (fun _ h9 => h9) rfl dX0_scaleBy_60 ?_
        refine z_ci (va_runV (As := []) (rest := []) ⟨hx, hb, hml, hown, hts⟩ (c_X2_count l D nwO nwH cN (sck f k i) ) (cwV 0 hts gX0_scaleBy_X2_count rfl rfl rfl (by decide +kernel) ⟨Nat.le_of_ble_eq_true rfl, Nat.le_of_ble_eq_true rfl⟩) ⟨(z_fb1), va_recv hK hP (ci := 4) (q0 := 3) rfl rfl, fun U hU hW => ⟨rfl, by rw [hU]; exact (hP.sub (ws' := [(nwO, .inr (4, [.ref nwH])), (nwH, .inl (cN, 256, .inl (aB (sck f k i))))]) [3, 4] rfl), va_K.moved hW.alike (hK.sub [0] rfl)⟩⟩ rfl rfl hl.1 rfl (lv_room (Nat.le_of_ble_eq_true rfl)) dX0_scaleBy_63 ⟨Nat.le_of_ble_eq_true rfl, Nat.le_of_ble_eq_true rfl⟩) (fun r63 e63 => ?_)
        subst e63
        have hP9 := hP.sub (ws' := [(bk, .inr (2, [.ref nwO, .ref thO])), (nwO, .inr (4, [.ref nwH])), (nwH, .inl (cN, 256, .inl (aB (sck f k i)))), (thO, .inr (4, [.ref thH])), (thH, .inl (cT, 256, .inl (aB (sck f k i)))), (nm, .inr (5, [.ref tT, .ref mS])), (tT, .inl (cI, 256, .inl (aN ztab)))]) [0, 3, 4, 5, 6, 1, 2] rfl
        have hD9 := hD.sub (ws' := [(bk, .inr (2, [.ref nwO, .ref thO])), (nwO, .inr (4, [.ref nwH])), (nwH, .inl (cN, 256, .inl (aB (sck f k i)))), (thO, .inr (4, [.ref thH])), (thH, .inl (cT, 256, .inl (aB (sck f k i)))), (nm, .inr (5, [.ref tT, .ref mS])), (tT, .inl (cI, 256, .inl (aN ztab)))]) [0, 3, 4, 5, 6, 1, 2] (by decide) rfl
        rw [hi9] at hP9 hD9
        have hK9 := hK.sub (tys' := [(cN, .boolean), (cT, .boolean), (cI, .int)]) [0, 1, 2] rfl
        subst hAe
        refine W.widen (k := 0) (n := 0) (Nat.le_of_ble_eq_true rfl) (Nat.le_of_ble_eq_true rfl) ?_
        exact W.iret hx hb hr (fun t ht hW => ⟨⟨_, (), rfl, (by rw [hi9]), by rw [ht]; exact hP9, va_K.moved hW.alike hK9, hD9⟩, hS.F ht⟩) hS.2.2 dX0_scaleBy_66
      · refine lv_aload_n hx hb dX0_scaleBy_16 rfl (lv_at hl 0 rfl) ?_
        refine va_get (D := D) (ci := 2) (v := .ref nwO) (C := RX0) (T := TX0) (N := 2) hx hb hts nX0_scaleBy_inX0 hown hK hP 0 rfl rfl 0 (by decide) (hts (.fieldLink RX0 12 "Gamefield$Basket" "now" "LGamefield$NumberSet;") (by decide +kernel)) (fun _ h9 => h9) rfl dX0_scaleBy_17 ?_
        refine lv_iload_n hx hb dX0_scaleBy_20 rfl (lv_at hl 3 rfl) ?_
        refine z_ci (va_runV (As := [.int (nI i)]) (rest := []) ⟨hx, hb, hml, hown, hts⟩ (c_X2_contains l D nwO nwH cN f i (by omega)) (cwV 1 hts gX0_scaleBy_X2_contains rfl rfl rfl (by decide +kernel) ⟨Nat.le_of_ble_eq_true rfl, Nat.le_of_ble_eq_true rfl⟩) ⟨(z_fb1), va_recv hK hP (ci := 4) (q0 := 1) rfl rfl, fun U hU hW => ⟨rfl, by rw [hU]; exact (hP.sub (ws' := [(nwO, .inr (4, [.ref nwH])), (nwH, .inl (cN, 256, .inl (aB f)))]) [1, 2] rfl), va_K.moved hW.alike (hK.sub [0] rfl)⟩⟩ rfl rfl hl.1 rfl (lv_room (Nat.le_of_ble_eq_true rfl)) dX0_scaleBy_21 ⟨Nat.le_of_ble_eq_true rfl, Nat.le_of_ble_eq_true rfl⟩) (fun r21 e21 => ?_)
        subst e21
        refine z_beq (tgt := 41) hx hb dX0_scaleBy_24 (by decide) (fun c_24 => ?_) (fun c_24 => ?_)
        · have e9 : sck f k i = sck f k (i + 1) := by rw [sck, c_24]; rfl
          refine lv_iinc (v := (nI (i + 1))) (lv' := [(3, .int (nI (i + 1))), (0, .ref bk), (1, .int (nI k)), (2, .ref nm)]) hx hb dX0_scaleBy_41 hl (k := 3) rfl (z_inc i 1) (by decide) rfl (fun ls hl => ?_)
          refine lv_goto (tgt := 9) hx hb dX0_scaleBy_44 (by decide) ?_
          have hP : va_P D vwCl [(bk, .inr (2, [.ref nwO, .ref thO])), (nwO, .inr (4, [.ref nwH])), (nwH, .inl (cN, 256, .inl (aB f))), (thO, .inr (4, [.ref thH])), (thH, .inl (cT, 256, .inl (aB (sck f k (i + 1))))), (nm, .inr (5, [.ref tT, .ref mS])), (tT, .inl (cI, 256, .inl (aN ztab)))] H := Eq.mp (congrArg (fun z9 => va_P D vwCl [(bk, .inr (2, [.ref nwO, .ref thO])), (nwO, .inr (4, [.ref nwH])), (nwH, .inl (cN, 256, .inl (aB f))), (thO, .inr (4, [.ref thH])), (thH, .inl (cT, 256, .inl (aB z9))), (nm, .inr (5, [.ref tT, .ref mS])), (tT, .inl (cI, 256, .inl (aN ztab)))] H) ((show sck f k i = sck f k (i + 1) from e9))) hP
          have hD : va_D A [(bk, .inr (2, [.ref nwO, .ref thO])), (nwO, .inr (4, [.ref nwH])), (nwH, .inl (cN, 256, .inl (aB f))), (thO, .inr (4, [.ref thH])), (thH, .inl (cT, 256, .inl (aB (sck f k (i + 1))))), (nm, .inr (5, [.ref tT, .ref mS])), (tT, .inl (cI, 256, .inl (aN ztab)))] := Eq.mp (congrArg (fun z9 => va_D A [(bk, .inr (2, [.ref nwO, .ref thO])), (nwO, .inr (4, [.ref nwH])), (nwH, .inl (cN, 256, .inl (aB f))), (thO, .inr (4, [.ref thH])), (thH, .inl (cT, 256, .inl (aB z9))), (nm, .inr (5, [.ref tT, .ref mS])), (tT, .inl (cI, 256, .inl (aN ztab)))]) ((show sck f k i = sck f k (i + 1) from e9))) hD
          exact ih_9 (i + 1) (by omega) (by omega) H locs hP hD hS ls (lv_sub hl [1, 2, 3, 0] rfl)
        · have e9 : va_up (sck f k i) (np i k) true = sck f k (i + 1) := by rw [sck, if_pos c_24]
          refine lv_aload_n hx hb dX0_scaleBy_27 rfl (lv_at hl 0 rfl) ?_
          refine va_get (D := D) (ci := 2) (v := .ref thO) (C := RX0) (T := TX0) (N := 2) hx hb hts nX0_scaleBy_inX0 hown hK hP 0 rfl rfl 1 (by decide) (hts (.fieldLink RX0 18 "Gamefield$Basket" "then" "LGamefield$NumberSet;") (by decide +kernel)) (fun _ h9 => h9) rfl dX0_scaleBy_28 ?_
          refine lv_aload_n hx hb dX0_scaleBy_31 rfl (lv_at hl 2 rfl) ?_
          refine lv_iload_n hx hb dX0_scaleBy_32 rfl (lv_at hl 3 rfl) ?_
          refine lv_iload_n hx hb dX0_scaleBy_33 rfl (lv_at hl 1 rfl) ?_
          refine z_ci (va_runV (As := [.int (nI i), .int (nI k)]) (rest := [.ref thO]) ⟨hx, hb, hml, hown, hts⟩ (c_X3_productOf l D nm tT mS cI i k (by omega) (by omega)) (cwV 2 hts gX0_scaleBy_X3_productOf rfl rfl rfl (by decide +kernel) ⟨Nat.le_of_ble_eq_true rfl, Nat.le_of_ble_eq_true rfl⟩) ⟨(z_fb1), va_recv hK hP (ci := 5) (q0 := 5) rfl rfl, fun U hU hW => ⟨rfl, by rw [hU]; exact (hP.sub (ws' := [(nm, .inr (5, [.ref tT, .ref mS])), (tT, .inl (cI, 256, .inl (aN ztab)))]) [5, 6] rfl), va_K.moved hW.alike (hK.sub [2] rfl)⟩⟩ rfl rfl hl.1 rfl (lv_room (Nat.le_of_ble_eq_true rfl)) dX0_scaleBy_34 ⟨Nat.le_of_ble_eq_true rfl, Nat.le_of_ble_eq_true rfl⟩) (fun r34 e34 => ?_)
          subst e34
          have hn34 : np i k < 256 := np_lt (by omega) (by omega)
          have hPc := hP.sub (ws' := [(thO, .inr (4, [.ref thH])), (thH, .inl (cT, 256, .inl (aB (sck f k i))))]) [3, 4] rfl
          have hDc := hD.sub (ws' := [(thO, .inr (4, [.ref thH])), (thH, .inl (cT, 256, .inl (aB (sck f k i))))]) [3, 4] (by decide) rfl
          have hKc := hK.sub (tys' := [(cT, .boolean)]) [1] rfl
          have hFc := va_free (wc := [(thO, .inr (4, [.ref thH])), (thH, .inl (cT, 256, .inl (aB (sck f k i))))]) hD hS hA [3, 4] rfl
          refine va_calli (va_runV (As := [.int (nI (np i k))]) (rest := []) ⟨hx, hb, hml, hown, hts⟩ (c_X2_add l D H.size thO thH cT (sck f k i) (np i k) (by omega)) (cwV 1 hts gX0_scaleBy_X2_add rfl rfl rfl (by decide +kernel) ⟨Nat.le_of_ble_eq_true rfl, Nat.le_of_ble_eq_true rfl⟩) ⟨(z_fb2), va_recv hK hP (ci := 4) (q0 := 3) rfl rfl, fun U hU hW => ⟨rfl, by rw [hU], by rw [hU]; exact hPc, va_K.moved hW.alike hKc, hDc.weaken (fun _ _ _ _ => trivial)⟩⟩ rfl rfl hl.1 rfl (lv_room (Nat.le_of_ble_eq_true rfl)) dX0_scaleBy_37 ⟨Nat.le_of_ble_eq_true rfl, Nat.le_of_ble_eq_true rfl⟩) hS (fun q _ h => hFc q h) hFc (fun r37 u37 t H locs ht hvm e37 hB hz1 hk1 hS => ?_)
          obtain ⟨hP1, hK1, hD1⟩ := hB
          rw [ht] at hP1
          obtain ⟨hP, hD⟩ := va_join (wr := [(bk, .inr (2, [.ref nwO, .ref thO])), (nwO, .inr (4, [.ref nwH])), (nwH, .inl (cN, 256, .inl (aB f))), (nm, .inr (5, [.ref tT, .ref mS])), (tT, .inl (cI, 256, .inl (aN ztab)))]) (w1 := [(thO, .inr (4, [.ref thH])), (thH, .inl (cT, 256, .inl (aB (va_up (sck f k i) (np i k) true))))]) hP hD [3, 4] [0, 1, 2, 5, 6] rfl rfl (by decide) (by decide) hk1 hFc hP1 hD1
          have hP : va_P D vwCl [(bk, .inr (2, [.ref nwO, .ref thO])), (nwO, .inr (4, [.ref nwH])), (nwH, .inl (cN, 256, .inl (aB f))), (nm, .inr (5, [.ref tT, .ref mS])), (tT, .inl (cI, 256, .inl (aN ztab))), (thO, .inr (4, [.ref thH])), (thH, .inl (cT, 256, .inl (aB (va_up (sck f k i) (np i k) true))))] H := hP
          have hD : va_D A [(bk, .inr (2, [.ref nwO, .ref thO])), (nwO, .inr (4, [.ref nwH])), (nwH, .inl (cN, 256, .inl (aB f))), (nm, .inr (5, [.ref tT, .ref mS])), (tT, .inl (cI, 256, .inl (aN ztab))), (thO, .inr (4, [.ref thH])), (thH, .inl (cT, 256, .inl (aB (va_up (sck f k i) (np i k) true))))] := hD
          refine W.widen (k := 0) (n := 0) (Nat.le_of_ble_eq_true rfl) (Nat.le_of_ble_eq_true rfl) ?_
          subst e37
          refine lv_pop hx hb dX0_scaleBy_40 rfl ?_
          refine lv_iinc (v := (nI (i + 1))) (lv' := [(3, .int (nI (i + 1))), (0, .ref bk), (1, .int (nI k)), (2, .ref nm)]) hx hb dX0_scaleBy_41 hl (k := 3) rfl (z_inc i 1) (by decide) rfl (fun ls hl => ?_)
          refine lv_goto (tgt := 9) hx hb dX0_scaleBy_44 (by decide) ?_
          have hP : va_P D vwCl [(bk, .inr (2, [.ref nwO, .ref thO])), (nwO, .inr (4, [.ref nwH])), (nwH, .inl (cN, 256, .inl (aB f))), (nm, .inr (5, [.ref tT, .ref mS])), (tT, .inl (cI, 256, .inl (aN ztab))), (thO, .inr (4, [.ref thH])), (thH, .inl (cT, 256, .inl (aB (sck f k (i + 1)))))] H := Eq.mp (congrArg (fun z9 => va_P D vwCl [(bk, .inr (2, [.ref nwO, .ref thO])), (nwO, .inr (4, [.ref nwH])), (nwH, .inl (cN, 256, .inl (aB f))), (nm, .inr (5, [.ref tT, .ref mS])), (tT, .inl (cI, 256, .inl (aN ztab))), (thO, .inr (4, [.ref thH])), (thH, .inl (cT, 256, .inl (aB z9)))] H) ((show va_up (sck f k i) (np i k) true = sck f k (i + 1) from e9))) hP
          have hD : va_D A [(bk, .inr (2, [.ref nwO, .ref thO])), (nwO, .inr (4, [.ref nwH])), (nwH, .inl (cN, 256, .inl (aB f))), (nm, .inr (5, [.ref tT, .ref mS])), (tT, .inl (cI, 256, .inl (aN ztab))), (thO, .inr (4, [.ref thH])), (thH, .inl (cT, 256, .inl (aB (sck f k (i + 1)))))] := Eq.mp (congrArg (fun z9 => va_D A [(bk, .inr (2, [.ref nwO, .ref thO])), (nwO, .inr (4, [.ref nwH])), (nwH, .inl (cN, 256, .inl (aB f))), (nm, .inr (5, [.ref tT, .ref mS])), (tT, .inl (cI, 256, .inl (aN ztab))), (thO, .inr (4, [.ref thH])), (thH, .inl (cT, 256, .inl (aB z9)))]) ((show va_up (sck f k i) (np i k) true = sck f k (i + 1) from e9))) hD
          exact ih_9 (i + 1) (by omega) (by omega) H locs (hP.sub [0, 1, 2, 5, 6, 3, 4] rfl) (hD.sub [0, 1, 2, 5, 6, 3, 4] (by decide) rfl) hS ls (lv_sub hl [1, 2, 3, 0] rfl)
  have hP : va_P D vwCl [(bk, .inr (2, [.ref nwO, .ref thO])), (nwO, .inr (4, [.ref nwH])), (nwH, .inl (cN, 256, .inl (aB f))), (nm, .inr (5, [.ref tT, .ref mS])), (tT, .inl (cI, 256, .inl (aN ztab))), (thO, .inr (4, [.ref thH])), (thH, .inl (cT, 256, .inl (aB (sck f k 0))))] H := Eq.mp (congrArg (fun z9 => va_P D vwCl [(bk, .inr (2, [.ref nwO, .ref thO])), (nwO, .inr (4, [.ref nwH])), (nwH, .inl (cN, 256, .inl (aB f))), (nm, .inr (5, [.ref tT, .ref mS])), (tT, .inl (cI, 256, .inl (aN ztab))), (thO, .inr (4, [.ref thH])), (thH, .inl (cT, 256, .inl (aB z9)))] H) ((show (fun _ => false) = sck f k 0 from rfl))) hP
  have hD : va_D A [(bk, .inr (2, [.ref nwO, .ref thO])), (nwO, .inr (4, [.ref nwH])), (nwH, .inl (cN, 256, .inl (aB f))), (nm, .inr (5, [.ref tT, .ref mS])), (tT, .inl (cI, 256, .inl (aN ztab))), (thO, .inr (4, [.ref thH])), (thH, .inl (cT, 256, .inl (aB (sck f k 0))))] := Eq.mp (congrArg (fun z9 => va_D A [(bk, .inr (2, [.ref nwO, .ref thO])), (nwO, .inr (4, [.ref nwH])), (nwH, .inl (cN, 256, .inl (aB f))), (nm, .inr (5, [.ref tT, .ref mS])), (tT, .inl (cI, 256, .inl (aN ztab))), (thO, .inr (4, [.ref thH])), (thH, .inl (cT, 256, .inl (aB z9)))]) ((show (fun _ => false) = sck f k 0 from rfl))) hD
  exact cut_9 ((256 - 0) + 1) 0 (by omega) (Nat.lt_succ_self _) H locs (hP.sub [0, 1, 2, 5, 6, 3, 4] rfl) (hD.sub [0, 1, 2, 5, 6, 3, 4] (by decide) rfl) hS ls (lv_sub hl [1, 2, 3, 0] rfl)
abbrev rm_c_X0_widenSpanBy : Room := { frames := 2, cells := 0, slots := 0, locals := 42 }
abbrev q_c_X0_widenSpanBy (D : va_G) (sz : Nat) (bk : Nat) (nwO : Nat) (thO : Nat) (thH : Nat) (cT : ClassId) (T : Nat → Bool) (k : Nat) : Array Value → State → Outcome → State → Prop := va_Qv (fun (_ : Unit) => True) (fun (_ : Unit) t => va_P D vwCl [(bk, .inr (2, [.ref nwO, .ref thO])), (thO, .inr (4, [.ref thH])), (thH, .inl (cT, 256, .inl (aB (wd T k))))] t.heap ∧ va_K D vwCl [(cT, .boolean)] t ∧ va_D (va_A [(bk, .inr (2, [.ref nwO, .ref thO])), (thO, .inr (4, [.ref thH])), (thH, .inl (cT, 256, .inl (aB T)))] sz) [(bk, .inr (2, [.ref nwO, .ref thO])), (thO, .inr (4, [.ref thH])), (thH, .inl (cT, 256, .inl (aB (wd T k))))]) (va_A [(bk, .inr (2, [.ref nwO, .ref thO])), (thO, .inr (4, [.ref thH])), (thH, .inl (cT, 256, .inl (aB T)))] sz)
set_option maxHeartbeats 4000000 in
set_option maxRecDepth 100000 in
theorem c_X0_widenSpanBy (l : Launch) (D : va_G) (sz : Nat) (bk : Nat) (nwO : Nat) (thO : Nat) (thH : Nat) (cT : ClassId) (T : Nat → Bool) (k : Nat) (hk : k < 256) : Met l yX0_widenSpanBy wsX0_widenSpanBy rm_c_X0_widenSpanBy (va_Pc [.ref bk, .int (nI k)] (fun U => U.heap.size = sz ∧ va_P D vwCl [(bk, .inr (2, [.ref nwO, .ref thO])), (thO, .inr (4, [.ref thH])), (thH, .inl (cT, 256, .inl (aB T)))] U.heap ∧ va_K D vwCl [(cT, .boolean)] U ∧ va_D (fun _ => True) [(bk, .inr (2, [.ref nwO, .ref thO])), (thO, .inr (4, [.ref thH])), (thH, .inl (cT, 256, .inl (aB T)))])) (q_c_X0_widenSpanBy D sz bk nwO thO thH cT T k) 0 0 (va_A [(bk, .inr (2, [.ref nwO, .ref thO])), (thO, .inr (4, [.ref thH])), (thH, .inl (cT, 256, .inl (aB T)))] sz) := by
  refine Met.ofW (cc := cX0_widenSpanBy) (maxL := 3) (ret := none) (by decide) rfl ?_
  intro p e s m args below meth c s₁ B hml hv
  obtain ⟨hargs, hsz, hP, hK, hD0⟩ := hv
  have hx := B.exec
  have hb := B.bytes
  have hr := B.returns
  have hts := atoms_spec (ws := wsX0_widenSpanBy) B.pre
  have hown : s.vm.findClass RX0 = some m.cls := findClass_of_methodNamed B.named
  have hlocks := B.notSynchronized
  subst hsz
  have hD := hD0.self (sz := s.heap.size)
  generalize hAe : va_A [(bk, .inr (2, [.ref nwO, .ref thO])), (thO, .inr (4, [.ref thH])), (thH, .inl (cT, 256, .inl (aB T)))] s.heap.size = A at hD ⊢
  have hA : ∀ q : Nat, s.heap.size ≤ q → A q := fun q h => by rw [← hAe]; exact Or.inr h
  have hS : va_S A s.heap s.heap [] := va_S.rf
  have hl := lv_entry ([.ref bk, .int (nI k)]) (n := 3) (Nat.le_of_ble_eq_true rfl)
  refine W.eq (g2 := F0 m 0 (lg_sl ([.ref bk, .int (nI k)]) ++ List.replicate (3 - (lg_sl ([.ref bk, .int (nI k)])).length) Slot.unset).toArray []) (by rw [hargs]; exact lg_entry_eq _ _ _) ?_
  generalize (lg_sl ([.ref bk, .int (nI k)]) ++ List.replicate (3 - (lg_sl ([.ref bk, .int (nI k)])).length) Slot.unset).toArray = ls at hl ⊢
  have hl : lv_has ls 3 [(0, .ref bk), (1, .int (nI k))] := hl
  refine lv_iconst (v := nI 0) hx hb dX0_widenSpanBy_0 zki_0 ?_
  refine lv_istore_n (lv' := [(2, .int (nI 0)), (0, .ref bk), (1, .int (nI k))]) hx hb dX0_widenSpanBy_1 rfl hl (by decide) rfl (fun ls hl => ?_)
  have cut_2 : ∀ (n : Nat) (i : Nat) (hi : i ≤ 256) (hn9 : 256 - i < n) (H : Heap) (locs : List Loc) (hP : va_P D vwCl [(bk, .inr (2, [.ref nwO, .ref thO])), (thO, .inr (4, [.ref thH])), (thH, .inl (cT, 256, .inl (aB (wdk T k i))))] H) (hD : va_D A [(bk, .inr (2, [.ref nwO, .ref thO])), (thO, .inr (4, [.ref thH])), (thH, .inl (cT, 256, .inl (aB (wdk T k i))))]) (hS : va_S A s.heap H locs) (ls : Array Slot) (hl : lv_has ls 3 [(0, .ref bk), (1, .int (nI k)), (2, .int (nI i))]), W p l e (headSpec wsX0_widenSpanBy rm_c_X0_widenSpanBy).room s m args below meth c H locs 0 0 (MQ below (q_c_X0_widenSpanBy D s.heap.size bk nwO thO thH cT T k) args s 0 0 A) (F0 m 2 ls []) := by
    intro n
    induction n with
    | zero => intro i hi hn9; exact absurd hn9 (Nat.not_lt_zero _)
    | succ n ih_2 =>
      intro i hi hn9 H locs hP hD hS ls hl
      refine lv_iload_n hx hb dX0_widenSpanBy_2 rfl (lv_at hl 2 rfl) ?_
      refine lv_sipush (v := nI 256) hx hb dX0_widenSpanBy_3 zks_256 ?_
      refine z_cge (tgt := 37) hx hb (by omega) (by omega) dX0_widenSpanBy_6 (by decide) (fun c_6 => ?_) (fun c_6 => ?_)
      · have hP9 := hP.sub (ws' := [(bk, .inr (2, [.ref nwO, .ref thO])), (thO, .inr (4, [.ref thH])), (thH, .inl (cT, 256, .inl (aB (wdk T k i))))]) [0, 1, 2] rfl
        have hD9 := hD.sub (ws' := [(bk, .inr (2, [.ref nwO, .ref thO])), (thO, .inr (4, [.ref thH])), (thH, .inl (cT, 256, .inl (aB (wdk T k i))))]) [0, 1, 2] (by decide) rfl
        have hi9 : i = 256 := by omega
        have hP9 := z_recell (k := 2) (g := wd T k) hP9 rfl (fun j hj => by rw [hi9]; exact wdk_all hk hj)
        have hD9 := z_reD (k := 2) (g := wd T k) hD9 rfl
        have hK9 := hK.sub (tys' := [(cT, .boolean)]) [0] rfl
        subst hAe
        refine W.widen (k := 0) (n := 0) (Nat.le_of_ble_eq_true rfl) (Nat.le_of_ble_eq_true rfl) ?_
        exact W.vret hx hb hr (fun t ht hW => ⟨⟨(), rfl, (trivial), by rw [ht]; exact hP9, va_K.moved hW.alike hK9, hD9⟩, hS.F ht⟩) hS.2.2 dX0_widenSpanBy_37
      · refine lv_aload_n hx hb dX0_widenSpanBy_9 rfl (lv_at hl 0 rfl) ?_
        refine va_get (D := D) (ci := 2) (v := .ref thO) (C := RX0) (T := TX0) (N := 2) hx hb hts nX0_widenSpanBy_inX0 hown hK hP 0 rfl rfl 1 (by decide) (hts (.fieldLink RX0 18 "Gamefield$Basket" "then" "LGamefield$NumberSet;") (by decide +kernel)) (fun _ h9 => h9) rfl dX0_widenSpanBy_10 ?_
        refine lv_iload_n hx hb dX0_widenSpanBy_13 rfl (lv_at hl 2 rfl) ?_
        refine z_ci (va_runV (As := [.int (nI i)]) (rest := []) ⟨hx, hb, hml, hown, hts⟩ (c_X2_contains l D thO thH cT (wdk T k i) i (by omega)) (cwV 1 hts gX0_widenSpanBy_X2_contains rfl rfl rfl (by decide +kernel) ⟨Nat.le_of_ble_eq_true rfl, Nat.le_of_ble_eq_true rfl⟩) ⟨(z_fb1), va_recv hK hP (ci := 4) (q0 := 1) rfl rfl, fun U hU hW => ⟨rfl, by rw [hU]; exact (hP.sub (ws' := [(thO, .inr (4, [.ref thH])), (thH, .inl (cT, 256, .inl (aB (wdk T k i))))]) [1, 2] rfl), va_K.moved hW.alike hK⟩⟩ rfl rfl hl.1 rfl (lv_room (Nat.le_of_ble_eq_true rfl)) dX0_widenSpanBy_14 ⟨Nat.le_of_ble_eq_true rfl, Nat.le_of_ble_eq_true rfl⟩) (fun r14 e14 => ?_)
        subst e14
        refine z_beq (tgt := 31) hx hb dX0_widenSpanBy_17 (by decide) (fun c_17 => ?_) (fun c_17 => ?_)
        · have e9 := (wdk_no c_17).symm
          refine lv_iinc (v := (nI (i + 1))) (lv' := [(2, .int (nI (i + 1))), (0, .ref bk), (1, .int (nI k))]) hx hb dX0_widenSpanBy_31 hl (k := 2) rfl (z_inc i 1) (by decide) rfl (fun ls hl => ?_)
          refine lv_goto (tgt := 2) hx hb dX0_widenSpanBy_34 (by decide) ?_
          have hP : va_P D vwCl [(bk, .inr (2, [.ref nwO, .ref thO])), (thO, .inr (4, [.ref thH])), (thH, .inl (cT, 256, .inl (aB (wdk T k (i + 1)))))] H := Eq.mp (congrArg (fun z9 => va_P D vwCl [(bk, .inr (2, [.ref nwO, .ref thO])), (thO, .inr (4, [.ref thH])), (thH, .inl (cT, 256, .inl (aB z9)))] H) ((show wdk T k i = wdk T k (i + 1) from e9))) hP
          have hD : va_D A [(bk, .inr (2, [.ref nwO, .ref thO])), (thO, .inr (4, [.ref thH])), (thH, .inl (cT, 256, .inl (aB (wdk T k (i + 1)))))] := Eq.mp (congrArg (fun z9 => va_D A [(bk, .inr (2, [.ref nwO, .ref thO])), (thO, .inr (4, [.ref thH])), (thH, .inl (cT, 256, .inl (aB z9)))]) ((show wdk T k i = wdk T k (i + 1) from e9))) hD
          exact ih_2 (i + 1) (by omega) (by omega) H locs hP hD hS ls (lv_sub hl [1, 2, 0] rfl)
        · have e9 := (wdk_yes c_17).symm
          refine lv_aload_n hx hb dX0_widenSpanBy_20 rfl (lv_at hl 0 rfl) ?_
          refine va_get (D := D) (ci := 2) (v := .ref thO) (C := RX0) (T := TX0) (N := 2) hx hb hts nX0_widenSpanBy_inX0 hown hK hP 0 rfl rfl 1 (by decide) (hts (.fieldLink RX0 18 "Gamefield$Basket" "then" "LGamefield$NumberSet;") (by decide +kernel)) (fun _ h9 => h9) rfl dX0_widenSpanBy_21 ?_
          refine lv_iload_n hx hb dX0_widenSpanBy_24 rfl (lv_at hl 2 rfl) ?_
          refine lv_iload_n hx hb dX0_widenSpanBy_25 rfl (lv_at hl 1 rfl) ?_
          refine z_xor hx hb dX0_widenSpanBy_26 ?_
          have hPc := hP.sub (ws' := [(thO, .inr (4, [.ref thH])), (thH, .inl (cT, 256, .inl (aB (wdk T k i))))]) [1, 2] rfl
          have hDc := hD.sub (ws' := [(thO, .inr (4, [.ref thH])), (thH, .inl (cT, 256, .inl (aB (wdk T k i))))]) [1, 2] (by decide) rfl
          have hKc := hK.sub (tys' := [(cT, .boolean)]) [0] rfl
          have hFc := va_free (wc := [(thO, .inr (4, [.ref thH])), (thH, .inl (cT, 256, .inl (aB (wdk T k i))))]) hD hS hA [1, 2] rfl
          refine va_calli (va_runV (As := [.int (nI (i ^^^ k))]) (rest := []) ⟨hx, hb, hml, hown, hts⟩ (c_X2_add l D H.size thO thH cT (wdk T k i) (i ^^^ k) (zx8 (by omega) hk)) (cwV 1 hts gX0_widenSpanBy_X2_add rfl rfl rfl (by decide +kernel) ⟨Nat.le_of_ble_eq_true rfl, Nat.le_of_ble_eq_true rfl⟩) ⟨(z_fb2), va_recv hK hP (ci := 4) (q0 := 1) rfl rfl, fun U hU hW => ⟨rfl, by rw [hU], by rw [hU]; exact hPc, va_K.moved hW.alike hKc, hDc.weaken (fun _ _ _ _ => trivial)⟩⟩ rfl rfl hl.1 rfl (lv_room (Nat.le_of_ble_eq_true rfl)) dX0_widenSpanBy_27 ⟨Nat.le_of_ble_eq_true rfl, Nat.le_of_ble_eq_true rfl⟩) hS (fun q _ h => hFc q h) hFc (fun r27 u27 t H locs ht hvm e27 hB hz1 hk1 hS => ?_)
          obtain ⟨hP1, hK1, hD1⟩ := hB
          rw [ht] at hP1
          obtain ⟨hP, hD⟩ := va_join (wr := [(bk, .inr (2, [.ref nwO, .ref thO]))]) (w1 := [(thO, .inr (4, [.ref thH])), (thH, .inl (cT, 256, .inl (aB (va_up (wdk T k i) (i ^^^ k) true))))]) hP hD [1, 2] [0] rfl rfl (by decide) (by decide) hk1 hFc hP1 hD1
          have hP : va_P D vwCl [(bk, .inr (2, [.ref nwO, .ref thO])), (thO, .inr (4, [.ref thH])), (thH, .inl (cT, 256, .inl (aB (va_up (wdk T k i) (i ^^^ k) true))))] H := hP
          have hD : va_D A [(bk, .inr (2, [.ref nwO, .ref thO])), (thO, .inr (4, [.ref thH])), (thH, .inl (cT, 256, .inl (aB (va_up (wdk T k i) (i ^^^ k) true))))] := hD
          refine W.widen (k := 0) (n := 0) (Nat.le_of_ble_eq_true rfl) (Nat.le_of_ble_eq_true rfl) ?_
          subst e27
          refine lv_pop hx hb dX0_widenSpanBy_30 rfl ?_
          refine lv_iinc (v := (nI (i + 1))) (lv' := [(2, .int (nI (i + 1))), (0, .ref bk), (1, .int (nI k))]) hx hb dX0_widenSpanBy_31 hl (k := 2) rfl (z_inc i 1) (by decide) rfl (fun ls hl => ?_)
          refine lv_goto (tgt := 2) hx hb dX0_widenSpanBy_34 (by decide) ?_
          have hP : va_P D vwCl [(bk, .inr (2, [.ref nwO, .ref thO])), (thO, .inr (4, [.ref thH])), (thH, .inl (cT, 256, .inl (aB (wdk T k (i + 1)))))] H := Eq.mp (congrArg (fun z9 => va_P D vwCl [(bk, .inr (2, [.ref nwO, .ref thO])), (thO, .inr (4, [.ref thH])), (thH, .inl (cT, 256, .inl (aB z9)))] H) ((show va_up (wdk T k i) (i ^^^ k) true = wdk T k (i + 1) from e9))) hP
          have hD : va_D A [(bk, .inr (2, [.ref nwO, .ref thO])), (thO, .inr (4, [.ref thH])), (thH, .inl (cT, 256, .inl (aB (wdk T k (i + 1)))))] := Eq.mp (congrArg (fun z9 => va_D A [(bk, .inr (2, [.ref nwO, .ref thO])), (thO, .inr (4, [.ref thH])), (thH, .inl (cT, 256, .inl (aB z9)))]) ((show va_up (wdk T k i) (i ^^^ k) true = wdk T k (i + 1) from e9))) hD
          exact ih_2 (i + 1) (by omega) (by omega) H locs hP hD hS ls (lv_sub hl [1, 2, 0] rfl)
  have hP : va_P D vwCl [(bk, .inr (2, [.ref nwO, .ref thO])), (thO, .inr (4, [.ref thH])), (thH, .inl (cT, 256, .inl (aB (wdk T k 0))))] s.heap := Eq.mp (congrArg (fun z9 => va_P D vwCl [(bk, .inr (2, [.ref nwO, .ref thO])), (thO, .inr (4, [.ref thH])), (thH, .inl (cT, 256, .inl (aB z9)))] s.heap) ((show T = wdk T k 0 from (wdk_0 _ _).symm))) hP
  have hD : va_D A [(bk, .inr (2, [.ref nwO, .ref thO])), (thO, .inr (4, [.ref thH])), (thH, .inl (cT, 256, .inl (aB (wdk T k 0))))] := Eq.mp (congrArg (fun z9 => va_D A [(bk, .inr (2, [.ref nwO, .ref thO])), (thO, .inr (4, [.ref thH])), (thH, .inl (cT, 256, .inl (aB z9)))]) ((show T = wdk T k 0 from (wdk_0 _ _).symm))) hD
  exact cut_2 ((256 - 0) + 1) 0 (by omega) (Nat.lt_succ_self _) _ _ hP hD hS ls (lv_sub hl [1, 2, 0] rfl)
abbrev rm_c_X0_spread : Room := { frames := 3, cells := 0, slots := 0, locals := 64 }
abbrev q_c_X0_spread (D : va_G) (sz : Nat) (bk : Nat) (nwO : Nat) (thO : Nat) (nwH : Nat) (thH : Nat) (cN : ClassId) (cT : ClassId) (f : Nat → Bool) (T : Nat → Bool) : Array Value → State → Outcome → State → Prop := va_Qi (fun r (_ : Unit) => r = (nI (rkk f 256))) (fun (_ : Unit) t => va_P D vwCl [(bk, .inr (2, [.ref nwO, .ref thO])), (nwO, .inr (4, [.ref nwH])), (nwH, .inl (cN, 256, .inl (aB f))), (thO, .inr (4, [.ref thH])), (thH, .inl (cT, 256, .inl (aB (spk f 256))))] t.heap ∧ va_K D vwCl [(cN, .boolean), (cT, .boolean)] t ∧ va_D (va_A [(bk, .inr (2, [.ref nwO, .ref thO])), (nwO, .inr (4, [.ref nwH])), (nwH, .inl (cN, 256, .inl (aB f))), (thO, .inr (4, [.ref thH])), (thH, .inl (cT, 256, .inl (aB T)))] sz) [(bk, .inr (2, [.ref nwO, .ref thO])), (nwO, .inr (4, [.ref nwH])), (nwH, .inl (cN, 256, .inl (aB f))), (thO, .inr (4, [.ref thH])), (thH, .inl (cT, 256, .inl (aB (spk f 256))))]) (va_A [(bk, .inr (2, [.ref nwO, .ref thO])), (nwO, .inr (4, [.ref nwH])), (nwH, .inl (cN, 256, .inl (aB f))), (thO, .inr (4, [.ref thH])), (thH, .inl (cT, 256, .inl (aB T)))] sz)
set_option maxHeartbeats 4000000 in
set_option maxRecDepth 100000 in
theorem c_X0_spread (l : Launch) (D : va_G) (sz : Nat) (bk : Nat) (nwO : Nat) (thO : Nat) (nwH : Nat) (thH : Nat) (cN : ClassId) (cT : ClassId) (f : Nat → Bool) (T : Nat → Bool) : Met l yX0_spread wsX0_spread rm_c_X0_spread (va_Pc [.ref bk] (fun U => U.heap.size = sz ∧ va_P D vwCl [(bk, .inr (2, [.ref nwO, .ref thO])), (nwO, .inr (4, [.ref nwH])), (nwH, .inl (cN, 256, .inl (aB f))), (thO, .inr (4, [.ref thH])), (thH, .inl (cT, 256, .inl (aB T)))] U.heap ∧ va_K D vwCl [(cN, .boolean), (cT, .boolean)] U ∧ va_D (fun _ => True) [(bk, .inr (2, [.ref nwO, .ref thO])), (nwO, .inr (4, [.ref nwH])), (nwH, .inl (cN, 256, .inl (aB f))), (thO, .inr (4, [.ref thH])), (thH, .inl (cT, 256, .inl (aB T)))])) (q_c_X0_spread D sz bk nwO thO nwH thH cN cT f T) 0 0 (va_A [(bk, .inr (2, [.ref nwO, .ref thO])), (nwO, .inr (4, [.ref nwH])), (nwH, .inl (cN, 256, .inl (aB f))), (thO, .inr (4, [.ref thH])), (thH, .inl (cT, 256, .inl (aB T)))] sz) := by
  refine Met.ofW (cc := cX0_spread) (maxL := 3) (ret := (some .int)) (by decide) rfl ?_
  intro p e s m args below meth c s₁ B hml hv
  obtain ⟨hargs, hsz, hP, hK, hD0⟩ := hv
  have hx := B.exec
  have hb := B.bytes
  have hr := B.returns
  have hts := atoms_spec (ws := wsX0_spread) B.pre
  have hown : s.vm.findClass RX0 = some m.cls := findClass_of_methodNamed B.named
  have hlocks := B.notSynchronized
  subst hsz
  have hD := hD0.self (sz := s.heap.size)
  generalize hAe : va_A [(bk, .inr (2, [.ref nwO, .ref thO])), (nwO, .inr (4, [.ref nwH])), (nwH, .inl (cN, 256, .inl (aB f))), (thO, .inr (4, [.ref thH])), (thH, .inl (cT, 256, .inl (aB T)))] s.heap.size = A at hD ⊢
  have hA : ∀ q : Nat, s.heap.size ≤ q → A q := fun q h => by rw [← hAe]; exact Or.inr h
  have hS : va_S A s.heap s.heap [] := va_S.rf
  have hl := lv_entry ([.ref bk]) (n := 3) (Nat.le_of_ble_eq_true rfl)
  refine W.eq (g2 := F0 m 0 (lg_sl ([.ref bk]) ++ List.replicate (3 - (lg_sl ([.ref bk])).length) Slot.unset).toArray []) (by rw [hargs]; exact lg_entry_eq _ _ _) ?_
  generalize (lg_sl ([.ref bk]) ++ List.replicate (3 - (lg_sl ([.ref bk])).length) Slot.unset).toArray = ls at hl ⊢
  have hl : lv_has ls 3 [(0, .ref bk)] := hl
  refine lv_iconst (v := nI 0) hx hb dX0_spread_0 zki_0 ?_
  refine lv_istore_n (lv' := [(1, .int (nI 0)), (0, .ref bk)]) hx hb dX0_spread_1 rfl hl (by decide) rfl (fun ls hl => ?_)
  refine lv_aload_n hx hb dX0_spread_2 rfl (lv_at hl 1 rfl) ?_
  refine va_get (D := D) (ci := 2) (v := .ref thO) (C := RX0) (T := TX0) (N := 2) hx hb hts nX0_spread_inX0 hown hK hP 0 rfl rfl 1 (by decide) (hts (.fieldLink RX0 18 "Gamefield$Basket" "then" "LGamefield$NumberSet;") (by decide +kernel)) (fun _ h9 => h9) rfl dX0_spread_3 ?_
  have hPc := hP.sub (ws' := [(thO, .inr (4, [.ref thH])), (thH, .inl (cT, 256, .inl (aB T)))]) [3, 4] rfl
  have hDc := hD.sub (ws' := [(thO, .inr (4, [.ref thH])), (thH, .inl (cT, 256, .inl (aB T)))]) [3, 4] (by decide) rfl
  have hKc := hK.sub (tys' := [(cT, .boolean)]) [1] rfl
  have hFc := va_free (wc := [(thO, .inr (4, [.ref thH])), (thH, .inl (cT, 256, .inl (aB T)))]) hD hS hA [3, 4] rfl
  refine va_callv (va_runV (As := []) (rest := []) ⟨hx, hb, hml, hown, hts⟩ (c_X2_empty l D s.heap.size thO thH cT T ) (cwV 0 hts gX0_spread_X2_empty rfl rfl rfl (by decide +kernel) ⟨Nat.le_of_ble_eq_true rfl, Nat.le_of_ble_eq_true rfl⟩) ⟨(z_fb2), va_recv hK hP (ci := 4) (q0 := 3) rfl rfl, fun U hU hW => ⟨rfl, by rw [hU], by rw [hU]; exact hPc, va_K.moved hW.alike hKc, hDc.weaken (fun _ _ _ _ => trivial)⟩⟩ rfl rfl hl.1 rfl (lv_room (Nat.le_of_ble_eq_true rfl)) dX0_spread_6 ⟨Nat.le_of_ble_eq_true rfl, Nat.le_of_ble_eq_true rfl⟩) hS (fun q _ h => hFc q h) hFc (fun u6 t H locs ht hvm e6 hB hz1 hk1 hS => ?_)
  obtain ⟨hP1, hK1, hD1⟩ := hB
  rw [ht] at hP1
  obtain ⟨hP, hD⟩ := va_join (wr := [(bk, .inr (2, [.ref nwO, .ref thO])), (nwO, .inr (4, [.ref nwH])), (nwH, .inl (cN, 256, .inl (aB f)))]) (w1 := [(thO, .inr (4, [.ref thH])), (thH, .inl (cT, 256, .inl (aB (fun _ => false))))]) hP hD [3, 4] [0, 1, 2] rfl rfl (by decide) (by decide) hk1 hFc hP1 hD1
  have hP : va_P D vwCl [(bk, .inr (2, [.ref nwO, .ref thO])), (nwO, .inr (4, [.ref nwH])), (nwH, .inl (cN, 256, .inl (aB f))), (thO, .inr (4, [.ref thH])), (thH, .inl (cT, 256, .inl (aB (fun _ => false))))] H := hP
  have hD : va_D A [(bk, .inr (2, [.ref nwO, .ref thO])), (nwO, .inr (4, [.ref nwH])), (nwH, .inl (cN, 256, .inl (aB f))), (thO, .inr (4, [.ref thH])), (thH, .inl (cT, 256, .inl (aB (fun _ => false))))] := hD
  refine W.widen (k := 0) (n := 0) (Nat.le_of_ble_eq_true rfl) (Nat.le_of_ble_eq_true rfl) ?_
  refine lv_aload_n hx hb dX0_spread_9 rfl (lv_at hl 1 rfl) ?_
  refine va_get (D := D) (ci := 2) (v := .ref thO) (C := RX0) (T := TX0) (N := 2) hx hb hts nX0_spread_inX0 hown hK hP 0 rfl rfl 1 (by decide) (hts (.fieldLink RX0 18 "Gamefield$Basket" "then" "LGamefield$NumberSet;") (by decide +kernel)) (fun _ h9 => h9) rfl dX0_spread_10 ?_
  refine lv_iconst (v := nI 0) hx hb dX0_spread_13 zki_0 ?_
  have hPc := hP.sub (ws' := [(thO, .inr (4, [.ref thH])), (thH, .inl (cT, 256, .inl (aB (fun _ => false))))]) [3, 4] rfl
  have hDc := hD.sub (ws' := [(thO, .inr (4, [.ref thH])), (thH, .inl (cT, 256, .inl (aB (fun _ => false))))]) [3, 4] (by decide) rfl
  have hKc := hK.sub (tys' := [(cT, .boolean)]) [1] rfl
  have hFc := va_free (wc := [(thO, .inr (4, [.ref thH])), (thH, .inl (cT, 256, .inl (aB (fun _ => false))))]) hD hS hA [3, 4] rfl
  refine va_calli (va_runV (As := [.int (nI 0)]) (rest := []) ⟨hx, hb, hml, hown, hts⟩ (c_X2_add l D H.size thO thH cT (fun _ => false) 0 (by omega)) (cwV 1 hts gX0_spread_X2_add rfl rfl rfl (by decide +kernel) ⟨Nat.le_of_ble_eq_true rfl, Nat.le_of_ble_eq_true rfl⟩) ⟨(z_fb2), va_recv hK hP (ci := 4) (q0 := 3) rfl rfl, fun U hU hW => ⟨rfl, by rw [hU], by rw [hU]; exact hPc, va_K.moved hW.alike hKc, hDc.weaken (fun _ _ _ _ => trivial)⟩⟩ rfl rfl hl.1 rfl (lv_room (Nat.le_of_ble_eq_true rfl)) dX0_spread_14 ⟨Nat.le_of_ble_eq_true rfl, Nat.le_of_ble_eq_true rfl⟩) hS (fun q _ h => hFc q h) hFc (fun r14 u14 t H locs ht hvm e14 hB hz1 hk1 hS => ?_)
  obtain ⟨hP1, hK1, hD1⟩ := hB
  rw [ht] at hP1
  obtain ⟨hP, hD⟩ := va_join (wr := [(bk, .inr (2, [.ref nwO, .ref thO])), (nwO, .inr (4, [.ref nwH])), (nwH, .inl (cN, 256, .inl (aB f)))]) (w1 := [(thO, .inr (4, [.ref thH])), (thH, .inl (cT, 256, .inl (aB (va_up (fun _ => false) 0 true))))]) hP hD [3, 4] [0, 1, 2] rfl rfl (by decide) (by decide) hk1 hFc hP1 hD1
  have hP : va_P D vwCl [(bk, .inr (2, [.ref nwO, .ref thO])), (nwO, .inr (4, [.ref nwH])), (nwH, .inl (cN, 256, .inl (aB f))), (thO, .inr (4, [.ref thH])), (thH, .inl (cT, 256, .inl (aB (va_up (fun _ => false) 0 true))))] H := hP
  have hD : va_D A [(bk, .inr (2, [.ref nwO, .ref thO])), (nwO, .inr (4, [.ref nwH])), (nwH, .inl (cN, 256, .inl (aB f))), (thO, .inr (4, [.ref thH])), (thH, .inl (cT, 256, .inl (aB (va_up (fun _ => false) 0 true))))] := hD
  refine W.widen (k := 0) (n := 0) (Nat.le_of_ble_eq_true rfl) (Nat.le_of_ble_eq_true rfl) ?_
  subst e14
  refine lv_pop hx hb dX0_spread_17 rfl ?_
  refine lv_iconst (v := nI 0) hx hb dX0_spread_18 zki_0 ?_
  refine lv_istore_n (lv' := [(2, .int (nI 0)), (1, .int (nI 0)), (0, .ref bk)]) hx hb dX0_spread_19 rfl hl (by decide) rfl (fun ls hl => ?_)
  have cut_20 : ∀ (n : Nat) (i : Nat) (hi : i ≤ 256) (hn9 : 256 - i < n) (H : Heap) (locs : List Loc) (hP : va_P D vwCl [(bk, .inr (2, [.ref nwO, .ref thO])), (nwO, .inr (4, [.ref nwH])), (nwH, .inl (cN, 256, .inl (aB f))), (thO, .inr (4, [.ref thH])), (thH, .inl (cT, 256, .inl (aB (spk f i))))] H) (hD : va_D A [(bk, .inr (2, [.ref nwO, .ref thO])), (nwO, .inr (4, [.ref nwH])), (nwH, .inl (cN, 256, .inl (aB f))), (thO, .inr (4, [.ref thH])), (thH, .inl (cT, 256, .inl (aB (spk f i))))]) (hS : va_S A s.heap H locs) (ls : Array Slot) (hl : lv_has ls 3 [(0, .ref bk), (1, .int (nI (rkk f i))), (2, .int (nI i))]), W p l e (headSpec wsX0_spread rm_c_X0_spread).room s m args below meth c H locs 0 0 (MQ below (q_c_X0_spread D s.heap.size bk nwO thO nwH thH cN cT f T) args s 0 0 A) (F0 m 20 ls []) := by
    intro n
    induction n with
    | zero => intro i hi hn9; exact absurd hn9 (Nat.not_lt_zero _)
    | succ n ih_20 =>
      intro i hi hn9 H locs hP hD hS ls hl
      refine lv_iload_n hx hb dX0_spread_20 rfl (lv_at hl 2 rfl) ?_
      refine lv_sipush (v := nI 256) hx hb dX0_spread_21 zks_256 ?_
      refine z_cge (tgt := 63) hx hb (by omega) (by omega) dX0_spread_24 (by decide) (fun c_24 => ?_) (fun c_24 => ?_)
      · refine lv_iload_n hx hb dX0_spread_63 rfl (lv_at hl 1 rfl) ?_
        have hP9 := hP.sub (ws' := [(bk, .inr (2, [.ref nwO, .ref thO])), (nwO, .inr (4, [.ref nwH])), (nwH, .inl (cN, 256, .inl (aB f))), (thO, .inr (4, [.ref thH])), (thH, .inl (cT, 256, .inl (aB (spk f i))))]) [0, 1, 2, 3, 4] rfl
        have hD9 := hD.sub (ws' := [(bk, .inr (2, [.ref nwO, .ref thO])), (nwO, .inr (4, [.ref nwH])), (nwH, .inl (cN, 256, .inl (aB f))), (thO, .inr (4, [.ref thH])), (thH, .inl (cT, 256, .inl (aB (spk f i))))]) [0, 1, 2, 3, 4] (by decide) rfl
        have hi9 : i = 256 := by omega
        rw [hi9] at hP9 hD9
        have hK9 := hK.sub (tys' := [(cN, .boolean), (cT, .boolean)]) [0, 1] rfl
        subst hAe
        refine W.widen (k := 0) (n := 0) (Nat.le_of_ble_eq_true rfl) (Nat.le_of_ble_eq_true rfl) ?_
        exact W.iret hx hb hr (fun t ht hW => ⟨⟨_, (), rfl, (by rw [hi9]), by rw [ht]; exact hP9, va_K.moved hW.alike hK9, hD9⟩, hS.F ht⟩) hS.2.2 dX0_spread_64
      · refine lv_aload_n hx hb dX0_spread_27 rfl (lv_at hl 0 rfl) ?_
        refine va_get (D := D) (ci := 2) (v := .ref nwO) (C := RX0) (T := TX0) (N := 2) hx hb hts nX0_spread_inX0 hown hK hP 0 rfl rfl 0 (by decide) (hts (.fieldLink RX0 12 "Gamefield$Basket" "now" "LGamefield$NumberSet;") (by decide +kernel)) (fun _ h9 => h9) rfl dX0_spread_28 ?_
        refine lv_iload_n hx hb dX0_spread_31 rfl (lv_at hl 2 rfl) ?_
        refine z_ci (va_runV (As := [.int (nI i)]) (rest := []) ⟨hx, hb, hml, hown, hts⟩ (c_X2_contains l D nwO nwH cN f i (by omega)) (cwV 1 hts gX0_spread_X2_contains rfl rfl rfl (by decide +kernel) ⟨Nat.le_of_ble_eq_true rfl, Nat.le_of_ble_eq_true rfl⟩) ⟨(z_fb1), va_recv hK hP (ci := 4) (q0 := 1) rfl rfl, fun U hU hW => ⟨rfl, by rw [hU]; exact (hP.sub (ws' := [(nwO, .inr (4, [.ref nwH])), (nwH, .inl (cN, 256, .inl (aB f)))]) [1, 2] rfl), va_K.moved hW.alike (hK.sub [0] rfl)⟩⟩ rfl rfl hl.1 rfl (lv_room (Nat.le_of_ble_eq_true rfl)) dX0_spread_32 ⟨Nat.le_of_ble_eq_true rfl, Nat.le_of_ble_eq_true rfl⟩) (fun r32 e32 => ?_)
        subst e32
        refine z_beq (tgt := 57) hx hb dX0_spread_35 (by decide) (fun c_35 => ?_) (fun c_35 => ?_)
        · have e9 : spk f i = spk f (i + 1) := by rw [spk, c_35]; simp
          have e8 : rkk f i = rkk f (i + 1) := by rw [rkk, c_35]; simp
          refine lv_iinc (v := (nI (i + 1))) (lv' := [(2, .int (nI (i + 1))), (0, .ref bk), (1, .int (nI (rkk f i)))]) hx hb dX0_spread_57 hl (k := 2) rfl (z_inc i 1) (by decide) rfl (fun ls hl => ?_)
          refine lv_goto (tgt := 20) hx hb dX0_spread_60 (by decide) ?_
          have hl : lv_has ls 3 [(2, .int (nI (i + 1))), (0, .ref bk), (1, .int (nI (rkk f (i + 1))))] := Eq.mp (congrArg (fun z9 => lv_has ls 3 [(2, .int (nI (i + 1))), (0, .ref bk), (1, .int z9)]) (congrArg nI (show rkk f i = rkk f (i + 1) from e8))) hl
          have hP : va_P D vwCl [(bk, .inr (2, [.ref nwO, .ref thO])), (nwO, .inr (4, [.ref nwH])), (nwH, .inl (cN, 256, .inl (aB f))), (thO, .inr (4, [.ref thH])), (thH, .inl (cT, 256, .inl (aB (spk f (i + 1)))))] H := Eq.mp (congrArg (fun z9 => va_P D vwCl [(bk, .inr (2, [.ref nwO, .ref thO])), (nwO, .inr (4, [.ref nwH])), (nwH, .inl (cN, 256, .inl (aB f))), (thO, .inr (4, [.ref thH])), (thH, .inl (cT, 256, .inl (aB z9)))] H) ((show spk f i = spk f (i + 1) from e9))) hP
          have hD : va_D A [(bk, .inr (2, [.ref nwO, .ref thO])), (nwO, .inr (4, [.ref nwH])), (nwH, .inl (cN, 256, .inl (aB f))), (thO, .inr (4, [.ref thH])), (thH, .inl (cT, 256, .inl (aB (spk f (i + 1)))))] := Eq.mp (congrArg (fun z9 => va_D A [(bk, .inr (2, [.ref nwO, .ref thO])), (nwO, .inr (4, [.ref nwH])), (nwH, .inl (cN, 256, .inl (aB f))), (thO, .inr (4, [.ref thH])), (thH, .inl (cT, 256, .inl (aB z9)))]) ((show spk f i = spk f (i + 1) from e9))) hD
          exact ih_20 (i + 1) (by omega) (by omega) H locs hP hD hS ls (lv_sub hl [1, 2, 0] rfl)
        · refine lv_aload_n hx hb dX0_spread_38 rfl (lv_at hl 0 rfl) ?_
          refine va_get (D := D) (ci := 2) (v := .ref thO) (C := RX0) (T := TX0) (N := 2) hx hb hts nX0_spread_inX0 hown hK hP 0 rfl rfl 1 (by decide) (hts (.fieldLink RX0 18 "Gamefield$Basket" "then" "LGamefield$NumberSet;") (by decide +kernel)) (fun _ h9 => h9) rfl dX0_spread_39 ?_
          refine lv_iload_n hx hb dX0_spread_42 rfl (lv_at hl 2 rfl) ?_
          refine z_ci (va_runV (As := [.int (nI i)]) (rest := []) ⟨hx, hb, hml, hown, hts⟩ (c_X2_contains l D thO thH cT (spk f i) i (by omega)) (cwV 1 hts gX0_spread_X2_contains rfl rfl rfl (by decide +kernel) ⟨Nat.le_of_ble_eq_true rfl, Nat.le_of_ble_eq_true rfl⟩) ⟨(z_fb1), va_recv hK hP (ci := 4) (q0 := 3) rfl rfl, fun U hU hW => ⟨rfl, by rw [hU]; exact (hP.sub (ws' := [(thO, .inr (4, [.ref thH])), (thH, .inl (cT, 256, .inl (aB (spk f i))))]) [3, 4] rfl), va_K.moved hW.alike (hK.sub [1] rfl)⟩⟩ rfl rfl hl.1 rfl (lv_room (Nat.le_of_ble_eq_true rfl)) dX0_spread_43 ⟨Nat.le_of_ble_eq_true rfl, Nat.le_of_ble_eq_true rfl⟩) (fun r43 e43 => ?_)
          subst e43
          refine z_bne (tgt := 57) hx hb dX0_spread_46 (by decide) (fun c_46 => ?_) (fun c_46 => ?_)
          · have e9 : spk f i = spk f (i + 1) := by rw [spk, c_46]; simp
            have e8 : rkk f i = rkk f (i + 1) := by rw [rkk, c_46]; simp
            refine lv_iinc (v := (nI (i + 1))) (lv' := [(2, .int (nI (i + 1))), (0, .ref bk), (1, .int (nI (rkk f i)))]) hx hb dX0_spread_57 hl (k := 2) rfl (z_inc i 1) (by decide) rfl (fun ls hl => ?_)
            refine lv_goto (tgt := 20) hx hb dX0_spread_60 (by decide) ?_
            have hl : lv_has ls 3 [(2, .int (nI (i + 1))), (0, .ref bk), (1, .int (nI (rkk f (i + 1))))] := Eq.mp (congrArg (fun z9 => lv_has ls 3 [(2, .int (nI (i + 1))), (0, .ref bk), (1, .int z9)]) (congrArg nI (show rkk f i = rkk f (i + 1) from e8))) hl
            have hP : va_P D vwCl [(bk, .inr (2, [.ref nwO, .ref thO])), (nwO, .inr (4, [.ref nwH])), (nwH, .inl (cN, 256, .inl (aB f))), (thO, .inr (4, [.ref thH])), (thH, .inl (cT, 256, .inl (aB (spk f (i + 1)))))] H := Eq.mp (congrArg (fun z9 => va_P D vwCl [(bk, .inr (2, [.ref nwO, .ref thO])), (nwO, .inr (4, [.ref nwH])), (nwH, .inl (cN, 256, .inl (aB f))), (thO, .inr (4, [.ref thH])), (thH, .inl (cT, 256, .inl (aB z9)))] H) ((show spk f i = spk f (i + 1) from e9))) hP
            have hD : va_D A [(bk, .inr (2, [.ref nwO, .ref thO])), (nwO, .inr (4, [.ref nwH])), (nwH, .inl (cN, 256, .inl (aB f))), (thO, .inr (4, [.ref thH])), (thH, .inl (cT, 256, .inl (aB (spk f (i + 1)))))] := Eq.mp (congrArg (fun z9 => va_D A [(bk, .inr (2, [.ref nwO, .ref thO])), (nwO, .inr (4, [.ref nwH])), (nwH, .inl (cN, 256, .inl (aB f))), (thO, .inr (4, [.ref thH])), (thH, .inl (cT, 256, .inl (aB z9)))]) ((show spk f i = spk f (i + 1) from e9))) hD
            exact ih_20 (i + 1) (by omega) (by omega) H locs hP hD hS ls (lv_sub hl [1, 2, 0] rfl)
          · have e9 : wd (spk f i) i = spk f (i + 1) := by rw [spk, if_pos ⟨c_35, c_46⟩]
            have e8 : rkk f i + 1 = rkk f (i + 1) := by rw [rkk, if_pos ⟨c_35, c_46⟩]
            refine lv_iinc (v := (nI (rkk f i + 1))) (lv' := [(1, .int (nI (rkk f i + 1))), (0, .ref bk), (2, .int (nI i))]) hx hb dX0_spread_49 hl (k := 1) rfl (z_inc (rkk f i) 1) (by decide) rfl (fun ls hl => ?_)
            refine lv_aload_n hx hb dX0_spread_52 rfl (lv_at hl 1 rfl) ?_
            refine lv_iload_n hx hb dX0_spread_53 rfl (lv_at hl 2 rfl) ?_
            have hPc := hP.sub (ws' := [(bk, .inr (2, [.ref nwO, .ref thO])), (thO, .inr (4, [.ref thH])), (thH, .inl (cT, 256, .inl (aB (spk f i))))]) [0, 3, 4] rfl
            have hDc := hD.sub (ws' := [(bk, .inr (2, [.ref nwO, .ref thO])), (thO, .inr (4, [.ref thH])), (thH, .inl (cT, 256, .inl (aB (spk f i))))]) [0, 3, 4] (by decide) rfl
            have hKc := hK.sub (tys' := [(cT, .boolean)]) [1] rfl
            have hFc := va_free (wc := [(bk, .inr (2, [.ref nwO, .ref thO])), (thO, .inr (4, [.ref thH])), (thH, .inl (cT, 256, .inl (aB (spk f i))))]) hD hS hA [0, 3, 4] rfl
            refine va_callv (va_runV (As := [.int (nI i)]) (rest := []) ⟨hx, hb, hml, hown, hts⟩ (c_X0_widenSpanBy l D H.size bk nwO thO thH cT (spk f i) i (by omega)) (cwV 1 hts gX0_spread_X0_widenSpanBy rfl rfl rfl (by decide +kernel) ⟨Nat.le_of_ble_eq_true rfl, Nat.le_of_ble_eq_true rfl⟩) ⟨(z_fb2), va_recv hK hP (ci := 2) (q0 := 0) rfl rfl, fun U hU hW => ⟨rfl, by rw [hU], by rw [hU]; exact hPc, va_K.moved hW.alike hKc, hDc.weaken (fun _ _ _ _ => trivial)⟩⟩ rfl rfl hl.1 rfl (lv_room (Nat.le_of_ble_eq_true rfl)) dX0_spread_54 ⟨Nat.le_of_ble_eq_true rfl, Nat.le_of_ble_eq_true rfl⟩) hS (fun q _ h => hFc q h) hFc (fun u54 t H locs ht hvm e54 hB hz1 hk1 hS => ?_)
            obtain ⟨hP1, hK1, hD1⟩ := hB
            rw [ht] at hP1
            obtain ⟨hP, hD⟩ := va_join (wr := [(nwO, .inr (4, [.ref nwH])), (nwH, .inl (cN, 256, .inl (aB f)))]) (w1 := [(bk, .inr (2, [.ref nwO, .ref thO])), (thO, .inr (4, [.ref thH])), (thH, .inl (cT, 256, .inl (aB (wd (spk f i) i))))]) hP hD [0, 3, 4] [1, 2] rfl rfl (by decide) (by decide) hk1 hFc hP1 hD1
            have hP : va_P D vwCl [(nwO, .inr (4, [.ref nwH])), (nwH, .inl (cN, 256, .inl (aB f))), (bk, .inr (2, [.ref nwO, .ref thO])), (thO, .inr (4, [.ref thH])), (thH, .inl (cT, 256, .inl (aB (wd (spk f i) i))))] H := hP
            have hD : va_D A [(nwO, .inr (4, [.ref nwH])), (nwH, .inl (cN, 256, .inl (aB f))), (bk, .inr (2, [.ref nwO, .ref thO])), (thO, .inr (4, [.ref thH])), (thH, .inl (cT, 256, .inl (aB (wd (spk f i) i))))] := hD
            refine W.widen (k := 0) (n := 0) (Nat.le_of_ble_eq_true rfl) (Nat.le_of_ble_eq_true rfl) ?_
            refine lv_iinc (v := (nI (i + 1))) (lv' := [(2, .int (nI (i + 1))), (1, .int (nI (rkk f i + 1))), (0, .ref bk)]) hx hb dX0_spread_57 hl (k := 2) rfl (z_inc i 1) (by decide) rfl (fun ls hl => ?_)
            refine lv_goto (tgt := 20) hx hb dX0_spread_60 (by decide) ?_
            have hl : lv_has ls 3 [(2, .int (nI (i + 1))), (1, .int (nI (rkk f (i + 1)))), (0, .ref bk)] := Eq.mp (congrArg (fun z9 => lv_has ls 3 [(2, .int (nI (i + 1))), (1, .int z9), (0, .ref bk)]) (congrArg nI (show rkk f i + 1 = rkk f (i + 1) from e8))) hl
            have hP : va_P D vwCl [(nwO, .inr (4, [.ref nwH])), (nwH, .inl (cN, 256, .inl (aB f))), (bk, .inr (2, [.ref nwO, .ref thO])), (thO, .inr (4, [.ref thH])), (thH, .inl (cT, 256, .inl (aB (spk f (i + 1)))))] H := Eq.mp (congrArg (fun z9 => va_P D vwCl [(nwO, .inr (4, [.ref nwH])), (nwH, .inl (cN, 256, .inl (aB f))), (bk, .inr (2, [.ref nwO, .ref thO])), (thO, .inr (4, [.ref thH])), (thH, .inl (cT, 256, .inl (aB z9)))] H) ((show wd (spk f i) i = spk f (i + 1) from e9))) hP
            have hD : va_D A [(nwO, .inr (4, [.ref nwH])), (nwH, .inl (cN, 256, .inl (aB f))), (bk, .inr (2, [.ref nwO, .ref thO])), (thO, .inr (4, [.ref thH])), (thH, .inl (cT, 256, .inl (aB (spk f (i + 1)))))] := Eq.mp (congrArg (fun z9 => va_D A [(nwO, .inr (4, [.ref nwH])), (nwH, .inl (cN, 256, .inl (aB f))), (bk, .inr (2, [.ref nwO, .ref thO])), (thO, .inr (4, [.ref thH])), (thH, .inl (cT, 256, .inl (aB z9)))]) ((show wd (spk f i) i = spk f (i + 1) from e9))) hD
            exact ih_20 (i + 1) (by omega) (by omega) H locs (hP.sub [2, 0, 1, 3, 4] rfl) (hD.sub [2, 0, 1, 3, 4] (by decide) rfl) hS ls (lv_sub hl [2, 1, 0] rfl)
  have hl : lv_has ls 3 [(2, .int (nI 0)), (1, .int (nI (rkk f 0))), (0, .ref bk)] := Eq.mp (congrArg (fun z9 => lv_has ls 3 [(2, .int (nI 0)), (1, .int z9), (0, .ref bk)]) (congrArg nI (show 0 = rkk f 0 from rfl))) hl
  have hP : va_P D vwCl [(bk, .inr (2, [.ref nwO, .ref thO])), (nwO, .inr (4, [.ref nwH])), (nwH, .inl (cN, 256, .inl (aB f))), (thO, .inr (4, [.ref thH])), (thH, .inl (cT, 256, .inl (aB (spk f 0))))] H := Eq.mp (congrArg (fun z9 => va_P D vwCl [(bk, .inr (2, [.ref nwO, .ref thO])), (nwO, .inr (4, [.ref nwH])), (nwH, .inl (cN, 256, .inl (aB f))), (thO, .inr (4, [.ref thH])), (thH, .inl (cT, 256, .inl (aB z9)))] H) ((show va_up (fun _ => false) 0 true = spk f 0 from rfl))) hP
  have hD : va_D A [(bk, .inr (2, [.ref nwO, .ref thO])), (nwO, .inr (4, [.ref nwH])), (nwH, .inl (cN, 256, .inl (aB f))), (thO, .inr (4, [.ref thH])), (thH, .inl (cT, 256, .inl (aB (spk f 0))))] := Eq.mp (congrArg (fun z9 => va_D A [(bk, .inr (2, [.ref nwO, .ref thO])), (nwO, .inr (4, [.ref nwH])), (nwH, .inl (cN, 256, .inl (aB f))), (thO, .inr (4, [.ref thH])), (thH, .inl (cT, 256, .inl (aB z9)))]) ((show va_up (fun _ => false) 0 true = spk f 0 from rfl))) hD
  exact cut_20 ((256 - 0) + 1) 0 (by omega) (Nat.lt_succ_self _) H locs hP hD hS ls (lv_sub hl [2, 1, 0] rfl)
abbrev rm_c_X0_spans : Room := { frames := 4, cells := 0, slots := 0, locals := 86 }
abbrev q_c_X0_spans (D : va_G) (sz : Nat) (bk : Nat) (nwO : Nat) (thO : Nat) (nwH : Nat) (thH : Nat) (cN : ClassId) (cT : ClassId) (f : Nat → Bool) (T : Nat → Bool) (k : Nat) : Array Value → State → Outcome → State → Prop := va_Qi (fun r (_ : Unit) => r = (bI (spk f 256 k))) (fun (_ : Unit) t => va_P D vwCl [(bk, .inr (2, [.ref nwO, .ref thO])), (nwO, .inr (4, [.ref nwH])), (nwH, .inl (cN, 256, .inl (aB f))), (thO, .inr (4, [.ref thH])), (thH, .inl (cT, 256, .inl (aB (spk f 256))))] t.heap ∧ va_K D vwCl [(cN, .boolean), (cT, .boolean)] t ∧ va_D (va_A [(bk, .inr (2, [.ref nwO, .ref thO])), (nwO, .inr (4, [.ref nwH])), (nwH, .inl (cN, 256, .inl (aB f))), (thO, .inr (4, [.ref thH])), (thH, .inl (cT, 256, .inl (aB T)))] sz) [(bk, .inr (2, [.ref nwO, .ref thO])), (nwO, .inr (4, [.ref nwH])), (nwH, .inl (cN, 256, .inl (aB f))), (thO, .inr (4, [.ref thH])), (thH, .inl (cT, 256, .inl (aB (spk f 256))))]) (va_A [(bk, .inr (2, [.ref nwO, .ref thO])), (nwO, .inr (4, [.ref nwH])), (nwH, .inl (cN, 256, .inl (aB f))), (thO, .inr (4, [.ref thH])), (thH, .inl (cT, 256, .inl (aB T)))] sz)
set_option maxHeartbeats 4000000 in
set_option maxRecDepth 100000 in
theorem c_X0_spans (l : Launch) (D : va_G) (sz : Nat) (bk : Nat) (nwO : Nat) (thO : Nat) (nwH : Nat) (thH : Nat) (cN : ClassId) (cT : ClassId) (f : Nat → Bool) (T : Nat → Bool) (k : Nat) (hk : k < 256) : Met l yX0_spans wsX0_spans rm_c_X0_spans (va_Pc [.ref bk, .int (nI k)] (fun U => U.heap.size = sz ∧ va_P D vwCl [(bk, .inr (2, [.ref nwO, .ref thO])), (nwO, .inr (4, [.ref nwH])), (nwH, .inl (cN, 256, .inl (aB f))), (thO, .inr (4, [.ref thH])), (thH, .inl (cT, 256, .inl (aB T)))] U.heap ∧ va_K D vwCl [(cN, .boolean), (cT, .boolean)] U ∧ va_D (fun _ => True) [(bk, .inr (2, [.ref nwO, .ref thO])), (nwO, .inr (4, [.ref nwH])), (nwH, .inl (cN, 256, .inl (aB f))), (thO, .inr (4, [.ref thH])), (thH, .inl (cT, 256, .inl (aB T)))])) (q_c_X0_spans D sz bk nwO thO nwH thH cN cT f T k) 0 0 (va_A [(bk, .inr (2, [.ref nwO, .ref thO])), (nwO, .inr (4, [.ref nwH])), (nwH, .inl (cN, 256, .inl (aB f))), (thO, .inr (4, [.ref thH])), (thH, .inl (cT, 256, .inl (aB T)))] sz) := by
  refine Met.ofW (cc := cX0_spans) (maxL := 2) (ret := (some .boolean)) (by decide) rfl ?_
  intro p e s m args below meth c s₁ B hml hv
  obtain ⟨hargs, hsz, hP, hK, hD0⟩ := hv
  have hx := B.exec
  have hb := B.bytes
  have hr := B.returns
  have hts := atoms_spec (ws := wsX0_spans) B.pre
  have hown : s.vm.findClass RX0 = some m.cls := findClass_of_methodNamed B.named
  have hlocks := B.notSynchronized
  subst hsz
  have hD := hD0.self (sz := s.heap.size)
  generalize hAe : va_A [(bk, .inr (2, [.ref nwO, .ref thO])), (nwO, .inr (4, [.ref nwH])), (nwH, .inl (cN, 256, .inl (aB f))), (thO, .inr (4, [.ref thH])), (thH, .inl (cT, 256, .inl (aB T)))] s.heap.size = A at hD ⊢
  have hA : ∀ q : Nat, s.heap.size ≤ q → A q := fun q h => by rw [← hAe]; exact Or.inr h
  have hS : va_S A s.heap s.heap [] := va_S.rf
  have hl := lv_entry ([.ref bk, .int (nI k)]) (n := 2) (Nat.le_of_ble_eq_true rfl)
  refine W.eq (g2 := F0 m 0 (lg_sl ([.ref bk, .int (nI k)]) ++ List.replicate (2 - (lg_sl ([.ref bk, .int (nI k)])).length) Slot.unset).toArray []) (by rw [hargs]; exact lg_entry_eq _ _ _) ?_
  generalize (lg_sl ([.ref bk, .int (nI k)]) ++ List.replicate (2 - (lg_sl ([.ref bk, .int (nI k)])).length) Slot.unset).toArray = ls at hl ⊢
  have hl : lv_has ls 2 [(0, .ref bk), (1, .int (nI k))] := hl
  refine lv_aload_n hx hb dX0_spans_0 rfl (lv_at hl 0 rfl) ?_
  have hPc := hP.sub (ws' := [(bk, .inr (2, [.ref nwO, .ref thO])), (nwO, .inr (4, [.ref nwH])), (nwH, .inl (cN, 256, .inl (aB f))), (thO, .inr (4, [.ref thH])), (thH, .inl (cT, 256, .inl (aB T)))]) [0, 1, 2, 3, 4] rfl
  have hDc := hD.sub (ws' := [(bk, .inr (2, [.ref nwO, .ref thO])), (nwO, .inr (4, [.ref nwH])), (nwH, .inl (cN, 256, .inl (aB f))), (thO, .inr (4, [.ref thH])), (thH, .inl (cT, 256, .inl (aB T)))]) [0, 1, 2, 3, 4] (by decide) rfl
  have hKc := hK.sub (tys' := [(cN, .boolean), (cT, .boolean)]) [0, 1] rfl
  have hFc := va_free (wc := [(bk, .inr (2, [.ref nwO, .ref thO])), (nwO, .inr (4, [.ref nwH])), (nwH, .inl (cN, 256, .inl (aB f))), (thO, .inr (4, [.ref thH])), (thH, .inl (cT, 256, .inl (aB T)))]) hD hS hA [0, 1, 2, 3, 4] rfl
  refine va_calli (va_runV (As := []) (rest := []) ⟨hx, hb, hml, hown, hts⟩ (c_X0_spread l D s.heap.size bk nwO thO nwH thH cN cT f T ) (cwV 0 hts gX0_spans_X0_spread rfl rfl rfl (by decide +kernel) ⟨Nat.le_of_ble_eq_true rfl, Nat.le_of_ble_eq_true rfl⟩) ⟨(z_fb2), va_recv hK hP (ci := 2) (q0 := 0) rfl rfl, fun U hU hW => ⟨rfl, by rw [hU], by rw [hU]; exact hPc, va_K.moved hW.alike hKc, hDc.weaken (fun _ _ _ _ => trivial)⟩⟩ rfl rfl hl.1 rfl (lv_room (Nat.le_of_ble_eq_true rfl)) dX0_spans_1 ⟨Nat.le_of_ble_eq_true rfl, Nat.le_of_ble_eq_true rfl⟩) hS (fun q _ h => hFc q h) hFc (fun r1 u1 t H locs ht hvm e1 hB hz1 hk1 hS => ?_)
  obtain ⟨hP1, hK1, hD1⟩ := hB
  rw [ht] at hP1
  obtain ⟨hP, hD⟩ := va_join (wr := []) (w1 := [(bk, .inr (2, [.ref nwO, .ref thO])), (nwO, .inr (4, [.ref nwH])), (nwH, .inl (cN, 256, .inl (aB f))), (thO, .inr (4, [.ref thH])), (thH, .inl (cT, 256, .inl (aB (spk f 256))))]) hP hD [0, 1, 2, 3, 4] [] rfl rfl (by decide) (by decide) hk1 hFc hP1 hD1
  have hP : va_P D vwCl [(bk, .inr (2, [.ref nwO, .ref thO])), (nwO, .inr (4, [.ref nwH])), (nwH, .inl (cN, 256, .inl (aB f))), (thO, .inr (4, [.ref thH])), (thH, .inl (cT, 256, .inl (aB (spk f 256))))] H := hP
  have hD : va_D A [(bk, .inr (2, [.ref nwO, .ref thO])), (nwO, .inr (4, [.ref nwH])), (nwH, .inl (cN, 256, .inl (aB f))), (thO, .inr (4, [.ref thH])), (thH, .inl (cT, 256, .inl (aB (spk f 256))))] := hD
  refine W.widen (k := 0) (n := 0) (Nat.le_of_ble_eq_true rfl) (Nat.le_of_ble_eq_true rfl) ?_
  subst e1
  refine lv_pop hx hb dX0_spans_4 rfl ?_
  refine lv_aload_n hx hb dX0_spans_5 rfl (lv_at hl 0 rfl) ?_
  refine va_get (D := D) (ci := 2) (v := .ref thO) (C := RX0) (T := TX0) (N := 2) hx hb hts nX0_spans_inX0 hown hK hP 0 rfl rfl 1 (by decide) (hts (.fieldLink RX0 18 "Gamefield$Basket" "then" "LGamefield$NumberSet;") (by decide +kernel)) (fun _ h9 => h9) rfl dX0_spans_6 ?_
  refine lv_iload_n hx hb dX0_spans_9 rfl (lv_at hl 1 rfl) ?_
  refine z_ci (va_runV (As := [.int (nI k)]) (rest := []) ⟨hx, hb, hml, hown, hts⟩ (c_X2_contains l D thO thH cT (spk f 256) k (by omega)) (cwV 1 hts gX0_spans_X2_contains rfl rfl rfl (by decide +kernel) ⟨Nat.le_of_ble_eq_true rfl, Nat.le_of_ble_eq_true rfl⟩) ⟨(z_fb1), va_recv hK hP (ci := 4) (q0 := 3) rfl rfl, fun U hU hW => ⟨rfl, by rw [hU]; exact (hP.sub (ws' := [(thO, .inr (4, [.ref thH])), (thH, .inl (cT, 256, .inl (aB (spk f 256))))]) [3, 4] rfl), va_K.moved hW.alike (hK.sub [1] rfl)⟩⟩ rfl rfl hl.1 rfl (lv_room (Nat.le_of_ble_eq_true rfl)) dX0_spans_10 ⟨Nat.le_of_ble_eq_true rfl, Nat.le_of_ble_eq_true rfl⟩) (fun r10 e10 => ?_)
  subst e10
  have hP9 := hP.sub (ws' := [(bk, .inr (2, [.ref nwO, .ref thO])), (nwO, .inr (4, [.ref nwH])), (nwH, .inl (cN, 256, .inl (aB f))), (thO, .inr (4, [.ref thH])), (thH, .inl (cT, 256, .inl (aB (spk f 256))))]) [0, 1, 2, 3, 4] rfl
  have hD9 := hD.sub (ws' := [(bk, .inr (2, [.ref nwO, .ref thO])), (nwO, .inr (4, [.ref nwH])), (nwH, .inl (cN, 256, .inl (aB f))), (thO, .inr (4, [.ref thH])), (thH, .inl (cT, 256, .inl (aB (spk f 256))))]) [0, 1, 2, 3, 4] (by decide) rfl
  have hK9 := hK.sub (tys' := [(cN, .boolean), (cT, .boolean)]) [0, 1] rfl
  subst hAe
  refine W.widen (k := 0) (n := 0) (Nat.le_of_ble_eq_true rfl) (Nat.le_of_ble_eq_true rfl) ?_
  exact W.zret (ty := .boolean) hx hb hr (z_narB _) (fun t ht hW => ⟨⟨_, (), rfl, (rfl), by rw [ht]; exact hP9, va_K.moved hW.alike hK9, hD9⟩, hS.F ht⟩) hS.2.2 dX0_spans_13
abbrev rm_c_X0_becomeSpan : Room := { frames := 4, cells := 0, slots := 0, locals := 86 }
abbrev q_c_X0_becomeSpan (D : va_G) (sz : Nat) (bk : Nat) (nwO : Nat) (thO : Nat) (nwH : Nat) (thH : Nat) (cN : ClassId) (cT : ClassId) (f : Nat → Bool) (T : Nat → Bool) : Array Value → State → Outcome → State → Prop := va_Qi (fun r (_ : Unit) => r = (nI (cm f (spk f 256) 256))) (fun (_ : Unit) t => va_P D vwCl [(bk, .inr (2, [.ref nwO, .ref thO])), (nwO, .inr (4, [.ref nwH])), (nwH, .inl (cN, 256, .inl (aB (spk f 256)))), (thO, .inr (4, [.ref thH])), (thH, .inl (cT, 256, .inl (aB (spk f 256))))] t.heap ∧ va_K D vwCl [(cN, .boolean), (cT, .boolean)] t ∧ va_D (va_A [(bk, .inr (2, [.ref nwO, .ref thO])), (nwO, .inr (4, [.ref nwH])), (nwH, .inl (cN, 256, .inl (aB f))), (thO, .inr (4, [.ref thH])), (thH, .inl (cT, 256, .inl (aB T)))] sz) [(bk, .inr (2, [.ref nwO, .ref thO])), (nwO, .inr (4, [.ref nwH])), (nwH, .inl (cN, 256, .inl (aB (spk f 256)))), (thO, .inr (4, [.ref thH])), (thH, .inl (cT, 256, .inl (aB (spk f 256))))]) (va_A [(bk, .inr (2, [.ref nwO, .ref thO])), (nwO, .inr (4, [.ref nwH])), (nwH, .inl (cN, 256, .inl (aB f))), (thO, .inr (4, [.ref thH])), (thH, .inl (cT, 256, .inl (aB T)))] sz)
set_option maxHeartbeats 4000000 in
set_option maxRecDepth 100000 in
theorem c_X0_becomeSpan (l : Launch) (D : va_G) (sz : Nat) (bk : Nat) (nwO : Nat) (thO : Nat) (nwH : Nat) (thH : Nat) (cN : ClassId) (cT : ClassId) (f : Nat → Bool) (T : Nat → Bool) : Met l yX0_becomeSpan wsX0_becomeSpan rm_c_X0_becomeSpan (va_Pc [.ref bk] (fun U => U.heap.size = sz ∧ va_P D vwCl [(bk, .inr (2, [.ref nwO, .ref thO])), (nwO, .inr (4, [.ref nwH])), (nwH, .inl (cN, 256, .inl (aB f))), (thO, .inr (4, [.ref thH])), (thH, .inl (cT, 256, .inl (aB T)))] U.heap ∧ va_K D vwCl [(cN, .boolean), (cT, .boolean)] U ∧ va_D (fun _ => True) [(bk, .inr (2, [.ref nwO, .ref thO])), (nwO, .inr (4, [.ref nwH])), (nwH, .inl (cN, 256, .inl (aB f))), (thO, .inr (4, [.ref thH])), (thH, .inl (cT, 256, .inl (aB T)))])) (q_c_X0_becomeSpan D sz bk nwO thO nwH thH cN cT f T) 0 0 (va_A [(bk, .inr (2, [.ref nwO, .ref thO])), (nwO, .inr (4, [.ref nwH])), (nwH, .inl (cN, 256, .inl (aB f))), (thO, .inr (4, [.ref thH])), (thH, .inl (cT, 256, .inl (aB T)))] sz) := by
  refine Met.ofW (cc := cX0_becomeSpan) (maxL := 1) (ret := (some .int)) (by decide) rfl ?_
  intro p e s m args below meth c s₁ B hml hv
  obtain ⟨hargs, hsz, hP, hK, hD0⟩ := hv
  have hx := B.exec
  have hb := B.bytes
  have hr := B.returns
  have hts := atoms_spec (ws := wsX0_becomeSpan) B.pre
  have hown : s.vm.findClass RX0 = some m.cls := findClass_of_methodNamed B.named
  have hlocks := B.notSynchronized
  subst hsz
  have hD := hD0.self (sz := s.heap.size)
  generalize hAe : va_A [(bk, .inr (2, [.ref nwO, .ref thO])), (nwO, .inr (4, [.ref nwH])), (nwH, .inl (cN, 256, .inl (aB f))), (thO, .inr (4, [.ref thH])), (thH, .inl (cT, 256, .inl (aB T)))] s.heap.size = A at hD ⊢
  have hA : ∀ q : Nat, s.heap.size ≤ q → A q := fun q h => by rw [← hAe]; exact Or.inr h
  have hS : va_S A s.heap s.heap [] := va_S.rf
  have hl := lv_entry ([.ref bk]) (n := 1) (Nat.le_of_ble_eq_true rfl)
  refine W.eq (g2 := F0 m 0 (lg_sl ([.ref bk]) ++ List.replicate (1 - (lg_sl ([.ref bk])).length) Slot.unset).toArray []) (by rw [hargs]; exact lg_entry_eq _ _ _) ?_
  generalize (lg_sl ([.ref bk]) ++ List.replicate (1 - (lg_sl ([.ref bk])).length) Slot.unset).toArray = ls at hl ⊢
  have hl : lv_has ls 1 [(0, .ref bk)] := hl
  refine lv_aload_n hx hb dX0_becomeSpan_0 rfl (lv_at hl 0 rfl) ?_
  have hPc := hP.sub (ws' := [(bk, .inr (2, [.ref nwO, .ref thO])), (nwO, .inr (4, [.ref nwH])), (nwH, .inl (cN, 256, .inl (aB f))), (thO, .inr (4, [.ref thH])), (thH, .inl (cT, 256, .inl (aB T)))]) [0, 1, 2, 3, 4] rfl
  have hDc := hD.sub (ws' := [(bk, .inr (2, [.ref nwO, .ref thO])), (nwO, .inr (4, [.ref nwH])), (nwH, .inl (cN, 256, .inl (aB f))), (thO, .inr (4, [.ref thH])), (thH, .inl (cT, 256, .inl (aB T)))]) [0, 1, 2, 3, 4] (by decide) rfl
  have hKc := hK.sub (tys' := [(cN, .boolean), (cT, .boolean)]) [0, 1] rfl
  have hFc := va_free (wc := [(bk, .inr (2, [.ref nwO, .ref thO])), (nwO, .inr (4, [.ref nwH])), (nwH, .inl (cN, 256, .inl (aB f))), (thO, .inr (4, [.ref thH])), (thH, .inl (cT, 256, .inl (aB T)))]) hD hS hA [0, 1, 2, 3, 4] rfl
  refine va_calli (va_runV (As := []) (rest := []) ⟨hx, hb, hml, hown, hts⟩ (c_X0_spread l D s.heap.size bk nwO thO nwH thH cN cT f T ) (cwV 0 hts gX0_becomeSpan_X0_spread rfl rfl rfl (by decide +kernel) ⟨Nat.le_of_ble_eq_true rfl, Nat.le_of_ble_eq_true rfl⟩) ⟨(z_fb2), va_recv hK hP (ci := 2) (q0 := 0) rfl rfl, fun U hU hW => ⟨rfl, by rw [hU], by rw [hU]; exact hPc, va_K.moved hW.alike hKc, hDc.weaken (fun _ _ _ _ => trivial)⟩⟩ rfl rfl hl.1 rfl (lv_room (Nat.le_of_ble_eq_true rfl)) dX0_becomeSpan_1 ⟨Nat.le_of_ble_eq_true rfl, Nat.le_of_ble_eq_true rfl⟩) hS (fun q _ h => hFc q h) hFc (fun r1 u1 t H locs ht hvm e1 hB hz1 hk1 hS => ?_)
  obtain ⟨hP1, hK1, hD1⟩ := hB
  rw [ht] at hP1
  obtain ⟨hP, hD⟩ := va_join (wr := []) (w1 := [(bk, .inr (2, [.ref nwO, .ref thO])), (nwO, .inr (4, [.ref nwH])), (nwH, .inl (cN, 256, .inl (aB f))), (thO, .inr (4, [.ref thH])), (thH, .inl (cT, 256, .inl (aB (spk f 256))))]) hP hD [0, 1, 2, 3, 4] [] rfl rfl (by decide) (by decide) hk1 hFc hP1 hD1
  have hP : va_P D vwCl [(bk, .inr (2, [.ref nwO, .ref thO])), (nwO, .inr (4, [.ref nwH])), (nwH, .inl (cN, 256, .inl (aB f))), (thO, .inr (4, [.ref thH])), (thH, .inl (cT, 256, .inl (aB (spk f 256))))] H := hP
  have hD : va_D A [(bk, .inr (2, [.ref nwO, .ref thO])), (nwO, .inr (4, [.ref nwH])), (nwH, .inl (cN, 256, .inl (aB f))), (thO, .inr (4, [.ref thH])), (thH, .inl (cT, 256, .inl (aB (spk f 256))))] := hD
  refine W.widen (k := 0) (n := 0) (Nat.le_of_ble_eq_true rfl) (Nat.le_of_ble_eq_true rfl) ?_
  subst e1
  refine lv_pop hx hb dX0_becomeSpan_4 rfl ?_
  refine lv_aload_n hx hb dX0_becomeSpan_5 rfl (lv_at hl 0 rfl) ?_
  refine va_get (D := D) (ci := 2) (v := .ref nwO) (C := RX0) (T := TX0) (N := 2) hx hb hts nX0_becomeSpan_inX0 hown hK hP 0 rfl rfl 0 (by decide) (hts (.fieldLink RX0 12 "Gamefield$Basket" "now" "LGamefield$NumberSet;") (by decide +kernel)) (fun _ h9 => h9) rfl dX0_becomeSpan_6 ?_
  refine lv_aload_n hx hb dX0_becomeSpan_9 rfl (lv_at hl 0 rfl) ?_
  refine va_get (D := D) (ci := 2) (v := .ref thO) (C := RX0) (T := TX0) (N := 2) hx hb hts nX0_becomeSpan_inX0 hown hK hP 0 rfl rfl 1 (by decide) (hts (.fieldLink RX0 18 "Gamefield$Basket" "then" "LGamefield$NumberSet;") (by decide +kernel)) (fun _ h9 => h9) rfl dX0_becomeSpan_10 ?_
  have hPc := hP.sub (ws' := [(nwO, .inr (4, [.ref nwH])), (nwH, .inl (cN, 256, .inl (aB f))), (thO, .inr (4, [.ref thH])), (thH, .inl (cT, 256, .inl (aB (spk f 256))))]) [1, 2, 3, 4] rfl
  have hDc := hD.sub (ws' := [(nwO, .inr (4, [.ref nwH])), (nwH, .inl (cN, 256, .inl (aB f))), (thO, .inr (4, [.ref thH])), (thH, .inl (cT, 256, .inl (aB (spk f 256))))]) [1, 2, 3, 4] (by decide) rfl
  have hKc := hK.sub (tys' := [(cN, .boolean), (cT, .boolean)]) [0, 1] rfl
  have hFc := va_free (wc := [(nwO, .inr (4, [.ref nwH])), (nwH, .inl (cN, 256, .inl (aB f))), (thO, .inr (4, [.ref thH])), (thH, .inl (cT, 256, .inl (aB (spk f 256))))]) hD hS hA [1, 2, 3, 4] rfl
  refine va_calli (va_runV (As := [.ref thO]) (rest := []) ⟨hx, hb, hml, hown, hts⟩ (c_X2_become l D H.size nwO nwH cN f thO thH cT (spk f 256) ) (cwV 1 hts gX0_becomeSpan_X2_become rfl rfl rfl (by decide +kernel) ⟨Nat.le_of_ble_eq_true rfl, Nat.le_of_ble_eq_true rfl⟩) ⟨(z_fb2), va_recv hK hP (ci := 4) (q0 := 1) rfl rfl, fun U hU hW => ⟨rfl, by rw [hU], by rw [hU]; exact hPc, va_K.moved hW.alike hKc, hDc.weaken (fun _ _ _ _ => trivial)⟩⟩ rfl rfl hl.1 rfl (lv_room (Nat.le_of_ble_eq_true rfl)) dX0_becomeSpan_13 ⟨Nat.le_of_ble_eq_true rfl, Nat.le_of_ble_eq_true rfl⟩) hS (fun q _ h => hFc q h) hFc (fun r13 u13 t H locs ht hvm e13 hB hz1 hk1 hS => ?_)
  obtain ⟨hP1, hK1, hD1⟩ := hB
  rw [ht] at hP1
  obtain ⟨hP, hD⟩ := va_join (wr := [(bk, .inr (2, [.ref nwO, .ref thO]))]) (w1 := [(nwO, .inr (4, [.ref nwH])), (nwH, .inl (cN, 256, .inl (aB (spk f 256)))), (thO, .inr (4, [.ref thH])), (thH, .inl (cT, 256, .inl (aB (spk f 256))))]) hP hD [1, 2, 3, 4] [0] rfl rfl (by decide) (by decide) hk1 hFc hP1 hD1
  have hP : va_P D vwCl [(bk, .inr (2, [.ref nwO, .ref thO])), (nwO, .inr (4, [.ref nwH])), (nwH, .inl (cN, 256, .inl (aB (spk f 256)))), (thO, .inr (4, [.ref thH])), (thH, .inl (cT, 256, .inl (aB (spk f 256))))] H := hP
  have hD : va_D A [(bk, .inr (2, [.ref nwO, .ref thO])), (nwO, .inr (4, [.ref nwH])), (nwH, .inl (cN, 256, .inl (aB (spk f 256)))), (thO, .inr (4, [.ref thH])), (thH, .inl (cT, 256, .inl (aB (spk f 256))))] := hD
  refine W.widen (k := 0) (n := 0) (Nat.le_of_ble_eq_true rfl) (Nat.le_of_ble_eq_true rfl) ?_
  subst e13
  have hP9 := hP.sub (ws' := [(bk, .inr (2, [.ref nwO, .ref thO])), (nwO, .inr (4, [.ref nwH])), (nwH, .inl (cN, 256, .inl (aB (spk f 256)))), (thO, .inr (4, [.ref thH])), (thH, .inl (cT, 256, .inl (aB (spk f 256))))]) [0, 1, 2, 3, 4] rfl
  have hD9 := hD.sub (ws' := [(bk, .inr (2, [.ref nwO, .ref thO])), (nwO, .inr (4, [.ref nwH])), (nwH, .inl (cN, 256, .inl (aB (spk f 256)))), (thO, .inr (4, [.ref thH])), (thH, .inl (cT, 256, .inl (aB (spk f 256))))]) [0, 1, 2, 3, 4] (by decide) rfl
  have hK9 := hK.sub (tys' := [(cN, .boolean), (cT, .boolean)]) [0, 1] rfl
  subst hAe
  refine W.widen (k := 0) (n := 0) (Nat.le_of_ble_eq_true rfl) (Nat.le_of_ble_eq_true rfl) ?_
  exact W.iret hx hb hr (fun t ht hW => ⟨⟨_, (), rfl, (rfl), by rw [ht]; exact hP9, va_K.moved hW.alike hK9, hD9⟩, hS.F ht⟩) hS.2.2 dX0_becomeSpan_16
abbrev rm_c_X0_mixedInto : Room := { frames := 2, cells := 0, slots := 0, locals := 42 }
abbrev q_c_X0_mixedInto (D : va_G) (bk : Nat) (nwO : Nat) (thO : Nat) (nwH : Nat) (cN : ClassId) (f : Nat → Bool) (c0 : Int64) : Array Value → State → Outcome → State → Prop := vp_Sl (fun r => r = mxb f (mx c0 (cn f 256)) 256)
set_option maxHeartbeats 4000000 in
set_option maxRecDepth 100000 in
theorem c_X0_mixedInto (l : Launch) (D : va_G) (bk : Nat) (nwO : Nat) (thO : Nat) (nwH : Nat) (cN : ClassId) (f : Nat → Bool) (c0 : Int64) : Met l yX0_mixedInto wsX0_mixedInto rm_c_X0_mixedInto (va_Pc [.ref bk, .long c0] (fun U => va_P D vwCl [(bk, .inr (2, [.ref nwO, .ref thO])), (nwO, .inr (4, [.ref nwH])), (nwH, .inl (cN, 256, .inl (aB f)))] U.heap ∧ va_K D vwCl [(cN, .boolean)] U ∧ va_Nw (.methodLinkNest RX0 52 yX5_mixed "Gamefield") U)) (q_c_X0_mixedInto D bk nwO thO nwH cN f c0) 0 0 (fun _ => False) := by
  refine Met.ofW (cc := cX0_mixedInto) (maxL := 6) (ret := (some .long)) (by decide) rfl ?_
  intro p e s m args below meth c s₁ B hml hv
  obtain ⟨hargs, hP, hK, hx0⟩ := hv
  have hx := B.exec
  have hb := B.bytes
  have hr := B.returns
  have hts := atoms_spec (ws := wsX0_mixedInto) B.pre
  have hown : s.vm.findClass RX0 = some m.cls := findClass_of_methodNamed B.named
  have hlocks := B.notSynchronized
  have hl := lv_entry ([.ref bk, .long c0]) (n := 6) (Nat.le_of_ble_eq_true rfl)
  refine W.eq (g2 := F0 m 0 (lg_sl ([.ref bk, .long c0]) ++ List.replicate (6 - (lg_sl ([.ref bk, .long c0])).length) Slot.unset).toArray []) (by rw [hargs]; exact lg_entry_eq _ _ _) ?_
  generalize (lg_sl ([.ref bk, .long c0]) ++ List.replicate (6 - (lg_sl ([.ref bk, .long c0])).length) Slot.unset).toArray = ls at hl ⊢
  have hl : lv_has ls 6 [(0, .ref bk), (1, .long c0)] := hl
  refine lv_lload_n hx hb dX0_mixedInto_0 rfl (lv_at hl 1 rfl) ?_
  refine lv_aload_n hx hb dX0_mixedInto_1 rfl (lv_at hl 0 rfl) ?_
  refine va_get (D := D) (ci := 2) (v := .ref nwO) (C := RX0) (T := TX0) (N := 2) hx hb hts nX0_mixedInto_inX0 hown hK hP 0 rfl rfl 0 (by decide) (hts (.fieldLink RX0 12 "Gamefield$Basket" "now" "LGamefield$NumberSet;") (by decide +kernel)) (fun _ h9 => h9) rfl dX0_mixedInto_2 ?_
  refine z_ci (va_runV (As := []) (rest := [.long c0]) ⟨hx, hb, hml, hown, hts⟩ (c_X2_count l D nwO nwH cN f ) (cwV 0 hts gX0_mixedInto_X2_count rfl rfl rfl (by decide +kernel) ⟨Nat.le_of_ble_eq_true rfl, Nat.le_of_ble_eq_true rfl⟩) ⟨(z_fb1), va_recv hK hP (ci := 4) (q0 := 1) rfl rfl, fun U hU hW => ⟨rfl, by rw [hU]; exact (hP.sub (ws' := [(nwO, .inr (4, [.ref nwH])), (nwH, .inl (cN, 256, .inl (aB f)))]) [1, 2] rfl), va_K.moved hW.alike hK⟩⟩ rfl rfl hl.1 rfl (lv_room (Nat.le_of_ble_eq_true rfl)) dX0_mixedInto_5 ⟨Nat.le_of_ble_eq_true rfl, Nat.le_of_ble_eq_true rfl⟩) (fun r5 e5 => ?_)
  subst e5
  have hc9 := cn_le f 256
  refine z_cl (va_runSN (As := [.long c0, .int (nI (cn f 256))]) (rest := []) ⟨hx, hb, hml, hown, hts⟩ (c_X5_mixed l D c0 (cn f 256) (by omega)) ⟨va_cnB (host := "Gamefield") 2 hts gX0_mixedInto_X5_mixed_n52 rfl rfl rfl hx0 (hts (.initialized RX5) (by decide +kernel)) (by decide +kernel) ⟨Nat.le_of_ble_eq_true rfl, Nat.le_of_ble_eq_true rfl⟩, hts (.static yX5_mixed) (by decide +kernel), trivial⟩ ⟨z_fb0, fun U hU hW => ⟨rfl, trivial⟩⟩ rfl rfl hl.1 rfl (lv_room (Nat.le_of_ble_eq_true rfl)) dX0_mixedInto_8 ⟨Nat.le_of_ble_eq_true rfl, Nat.le_of_ble_eq_true rfl⟩) (fun r8 e8 => ?_)
  subst e8
  refine lv_lstore_n (lv' := [(3, .long (mx c0 (cn f 256))), (0, .ref bk), (1, .long c0)]) hx hb dX0_mixedInto_11 rfl hl (by decide) rfl (fun ls hl => ?_)
  refine lv_iconst (v := nI 0) hx hb dX0_mixedInto_12 zki_0 ?_
  refine lv_istore (lv' := [(5, .int (nI 0)), (3, .long (mx c0 (cn f 256))), (0, .ref bk), (1, .long c0)]) hx hb dX0_mixedInto_13 hl (by decide) rfl (fun ls hl => ?_)
  have cut_15 : ∀ (n : Nat) (i : Nat) (hi : i ≤ 256) (hn9 : 256 - i < n) (ls : Array Slot) (hl : lv_has ls 6 [(0, .ref bk), (1, .long c0), (3, .long (mxb f (mx c0 (cn f 256)) i)), (5, .int (nI i))]), W p l e (headSpec wsX0_mixedInto rm_c_X0_mixedInto).room s m args below meth c s.heap [] 0 0 (MQ below (q_c_X0_mixedInto D bk nwO thO nwH cN f c0) args s 0 0 (fun _ => False)) (F0 m 15 ls []) := by
    intro n
    induction n with
    | zero => intro i hi hn9; exact absurd hn9 (Nat.not_lt_zero _)
    | succ n ih_15 =>
      intro i hi hn9 ls hl
      refine lv_iload hx hb dX0_mixedInto_15 (lv_at hl 3 rfl) ?_
      refine lv_sipush (v := nI 256) hx hb dX0_mixedInto_17 zks_256 ?_
      refine z_cge (tgt := 48) hx hb (by omega) (by omega) dX0_mixedInto_20 (by decide) (fun c_20 => ?_) (fun c_20 => ?_)
      · refine lv_lload_n hx hb dX0_mixedInto_48 rfl (lv_at hl 2 rfl) ?_
        exact W.lret hx hb hr (fun t ht _ => ⟨_, rfl, (by rw [show i = 256 by omega]), ht⟩) (fun _ h => nomatch h) dX0_mixedInto_49
      · refine lv_aload_n hx hb dX0_mixedInto_23 rfl (lv_at hl 0 rfl) ?_
        refine va_get (D := D) (ci := 2) (v := .ref nwO) (C := RX0) (T := TX0) (N := 2) hx hb hts nX0_mixedInto_inX0 hown hK hP 0 rfl rfl 0 (by decide) (hts (.fieldLink RX0 12 "Gamefield$Basket" "now" "LGamefield$NumberSet;") (by decide +kernel)) (fun _ h9 => h9) rfl dX0_mixedInto_24 ?_
        refine lv_iload hx hb dX0_mixedInto_27 (lv_at hl 3 rfl) ?_
        refine z_ci (va_runV (As := [.int (nI i)]) (rest := []) ⟨hx, hb, hml, hown, hts⟩ (c_X2_contains l D nwO nwH cN f i (by omega)) (cwV 1 hts gX0_mixedInto_X2_contains rfl rfl rfl (by decide +kernel) ⟨Nat.le_of_ble_eq_true rfl, Nat.le_of_ble_eq_true rfl⟩) ⟨(z_fb1), va_recv hK hP (ci := 4) (q0 := 1) rfl rfl, fun U hU hW => ⟨rfl, by rw [hU]; exact (hP.sub (ws' := [(nwO, .inr (4, [.ref nwH])), (nwH, .inl (cN, 256, .inl (aB f)))]) [1, 2] rfl), va_K.moved hW.alike hK⟩⟩ rfl rfl hl.1 rfl (lv_room (Nat.le_of_ble_eq_true rfl)) dX0_mixedInto_29 ⟨Nat.le_of_ble_eq_true rfl, Nat.le_of_ble_eq_true rfl⟩) (fun r29 e29 => ?_)
        subst e29
        refine z_beq (tgt := 42) hx hb dX0_mixedInto_32 (by decide) (fun c_32 => ?_) (fun c_32 => ?_)
        · have e9 : mxb f (mx c0 (cn f 256)) i = mxb f (mx c0 (cn f 256)) (i + 1) := by rw [mxb, c_32]; rfl
          refine lv_iinc (v := (nI (i + 1))) (lv' := [(5, .int (nI (i + 1))), (0, .ref bk), (1, .long c0), (3, .long (mxb f (mx c0 (cn f 256)) i))]) hx hb dX0_mixedInto_42 hl (k := 3) rfl (z_inc i 1) (by decide) rfl (fun ls hl => ?_)
          refine lv_goto (tgt := 15) hx hb dX0_mixedInto_45 (by decide) ?_
          have hl : lv_has ls 6 [(5, .int (nI (i + 1))), (0, .ref bk), (1, .long c0), (3, .long (mxb f (mx c0 (cn f 256)) (i + 1)))] := Eq.mp (congrArg (fun z9 => lv_has ls 6 [(5, .int (nI (i + 1))), (0, .ref bk), (1, .long c0), (3, .long z9)]) ((show mxb f (mx c0 (cn f 256)) i = mxb f (mx c0 (cn f 256)) (i + 1) from e9))) hl
          exact ih_15 (i + 1) (by omega) (by omega) ls (lv_sub hl [1, 2, 3, 0] rfl)
        · have e9 : mx (mxb f (mx c0 (cn f 256)) i) i = mxb f (mx c0 (cn f 256)) (i + 1) := by rw [mxb, if_pos c_32]
          refine lv_lload_n hx hb dX0_mixedInto_35 rfl (lv_at hl 2 rfl) ?_
          refine lv_iload hx hb dX0_mixedInto_36 (lv_at hl 3 rfl) ?_
          refine z_cl (va_runSN (As := [.long (mxb f (mx c0 (cn f 256)) i), .int (nI i)]) (rest := []) ⟨hx, hb, hml, hown, hts⟩ (c_X5_mixed l D (mxb f (mx c0 (cn f 256)) i) i (by omega)) ⟨va_cnB (host := "Gamefield") 2 hts gX0_mixedInto_X5_mixed_n52 rfl rfl rfl hx0 (hts (.initialized RX5) (by decide +kernel)) (by decide +kernel) ⟨Nat.le_of_ble_eq_true rfl, Nat.le_of_ble_eq_true rfl⟩, hts (.static yX5_mixed) (by decide +kernel), trivial⟩ ⟨z_fb0, fun U hU hW => ⟨rfl, trivial⟩⟩ rfl rfl hl.1 rfl (lv_room (Nat.le_of_ble_eq_true rfl)) dX0_mixedInto_38 ⟨Nat.le_of_ble_eq_true rfl, Nat.le_of_ble_eq_true rfl⟩) (fun r38 e38 => ?_)
          subst e38
          refine lv_lstore_n (lv' := [(3, .long (mx (mxb f (mx c0 (cn f 256)) i) i)), (0, .ref bk), (1, .long c0), (5, .int (nI i))]) hx hb dX0_mixedInto_41 rfl hl (by decide) rfl (fun ls hl => ?_)
          refine lv_iinc (v := (nI (i + 1))) (lv' := [(5, .int (nI (i + 1))), (3, .long (mx (mxb f (mx c0 (cn f 256)) i) i)), (0, .ref bk), (1, .long c0)]) hx hb dX0_mixedInto_42 hl (k := 3) rfl (z_inc i 1) (by decide) rfl (fun ls hl => ?_)
          refine lv_goto (tgt := 15) hx hb dX0_mixedInto_45 (by decide) ?_
          have hl : lv_has ls 6 [(5, .int (nI (i + 1))), (3, .long (mxb f (mx c0 (cn f 256)) (i + 1))), (0, .ref bk), (1, .long c0)] := Eq.mp (congrArg (fun z9 => lv_has ls 6 [(5, .int (nI (i + 1))), (3, .long z9), (0, .ref bk), (1, .long c0)]) ((show mx (mxb f (mx c0 (cn f 256)) i) i = mxb f (mx c0 (cn f 256)) (i + 1) from e9))) hl
          exact ih_15 (i + 1) (by omega) (by omega) ls (lv_sub hl [2, 3, 1, 0] rfl)
  have hl : lv_has ls 6 [(5, .int (nI 0)), (3, .long (mxb f (mx c0 (cn f 256)) 0)), (0, .ref bk), (1, .long c0)] := Eq.mp (congrArg (fun z9 => lv_has ls 6 [(5, .int (nI 0)), (3, .long z9), (0, .ref bk), (1, .long c0)]) ((show mx c0 (cn f 256) = mxb f (mx c0 (cn f 256)) 0 from rfl))) hl
  exact cut_15 ((256 - 0) + 1) 0 (by omega) (Nat.lt_succ_self _) ls (lv_sub hl [2, 3, 1, 0] rfl)
