/-! The reference's basket. -/
theorem cm_0 (f : Nat → Bool) : ∀ n, cm f (fun _ => false) n = 0
  | 0 => rfl
  | n + 1 => by rw [cm, cm_0 f n]; simp
theorem cn_lt (f : Nat → Bool) (n : Nat) (h : n < 2147483648) : cn f n < 2147483648 := by have := cn_le f n; omega
theorem nX6_leastOut_inX6 : ∀ w ∈ u_ws RX6 TX6 8, w ∈ wsX6_leastOut := by decide +kernel
theorem nX6_has_inX6 : ∀ w ∈ u_ws RX6 TX6 8, w ∈ wsX6_has := by decide +kernel
theorem nX6_take_inX6 : ∀ w ∈ u_ws RX6 TX6 8, w ∈ wsX6_take := by decide +kernel
theorem nX6_put_inX6 : ∀ w ∈ u_ws RX6 TX6 8, w ∈ wsX6_put := by decide +kernel
theorem nX6_size_inX6 : ∀ w ∈ u_ws RX6 TX6 8, w ∈ wsX6_size := by decide +kernel
theorem nX6_becomes__inX6 : ∀ w ∈ u_ws RX6 TX6 8, w ∈ wsX6_becomes_ := by decide +kernel
theorem nX6_shift_inX6 : ∀ w ∈ u_ws RX6 TX6 8, w ∈ wsX6_shift := by decide +kernel
theorem nX6_scale_inX6 : ∀ w ∈ u_ws RX6 TX6 8, w ∈ wsX6_scale := by decide +kernel
abbrev rm_c_X6_leastOut : Room := { frames := 1, cells := 0, slots := 0, locals := 21 }
abbrev q_c_X6_leastOut (D : va_G) (sz : Nat) (mo : Nat) (ra : Nat) (ca : Nat) (ha : Nat) (ba : Nat) (wa : Nat) (kp : Nat) (hd : Nat) (kb : ClassId) (th : Nat) (bf : Nat → Bool) : Array Value → State → Outcome → State → Prop := va_Qi (fun r (_ : Unit) => r = (nI (lo bf 256))) (fun (_ : Unit) t => va_P D vwCl [(mo, .inr (8, [.int (nI 0), .ref ra, .ref ca, .ref ha, .int (nI kp), .ref ba, .int (nI hd), .ref wa])), (ba, .inl (kb, 256, .inl (aB bf)))] t.heap ∧ va_K D vwCl [(kb, .boolean)] t ∧ va_D (va_A [(mo, .inr (8, [.int (nI th), .ref ra, .ref ca, .ref ha, .int (nI kp), .ref ba, .int (nI hd), .ref wa])), (ba, .inl (kb, 256, .inl (aB bf)))] sz) [(mo, .inr (8, [.int (nI 0), .ref ra, .ref ca, .ref ha, .int (nI kp), .ref ba, .int (nI hd), .ref wa])), (ba, .inl (kb, 256, .inl (aB bf)))]) (va_A [(mo, .inr (8, [.int (nI th), .ref ra, .ref ca, .ref ha, .int (nI kp), .ref ba, .int (nI hd), .ref wa])), (ba, .inl (kb, 256, .inl (aB bf)))] sz)
set_option maxHeartbeats 4000000 in
set_option maxRecDepth 100000 in
theorem c_X6_leastOut (l : Launch) (D : va_G) (sz : Nat) (mo : Nat) (ra : Nat) (ca : Nat) (ha : Nat) (ba : Nat) (wa : Nat) (kp : Nat) (hd : Nat) (kb : ClassId) (th : Nat) (bf : Nat → Bool) : Met l yX6_leastOut wsX6_leastOut rm_c_X6_leastOut (va_Pc [.ref mo] (fun U => U.heap.size = sz ∧ va_P D vwCl [(mo, .inr (8, [.int (nI th), .ref ra, .ref ca, .ref ha, .int (nI kp), .ref ba, .int (nI hd), .ref wa])), (ba, .inl (kb, 256, .inl (aB bf)))] U.heap ∧ va_K D vwCl [(kb, .boolean)] U ∧ va_D (fun _ => True) [(mo, .inr (8, [.int (nI th), .ref ra, .ref ca, .ref ha, .int (nI kp), .ref ba, .int (nI hd), .ref wa])), (ba, .inl (kb, 256, .inl (aB bf)))])) (q_c_X6_leastOut D sz mo ra ca ha ba wa kp hd kb th bf) 0 0 (va_A [(mo, .inr (8, [.int (nI th), .ref ra, .ref ca, .ref ha, .int (nI kp), .ref ba, .int (nI hd), .ref wa])), (ba, .inl (kb, 256, .inl (aB bf)))] sz) := by
  refine Met.ofW (cc := cX6_leastOut) (maxL := 1) (ret := (some .int)) (by decide) rfl ?_
  intro p e s m args below meth c s₁ B hml hv
  obtain ⟨hargs, hsz, hP, hK, hD0⟩ := hv
  have hx := B.exec
  have hb := B.bytes
  have hr := B.returns
  have hts := atoms_spec (ws := wsX6_leastOut) B.pre
  have hown : s.vm.findClass RX6 = some m.cls := findClass_of_methodNamed B.named
  have hlocks := B.notSynchronized
  subst hsz
  have hD := hD0.self (sz := s.heap.size)
  generalize hAe : va_A [(mo, .inr (8, [.int (nI th), .ref ra, .ref ca, .ref ha, .int (nI kp), .ref ba, .int (nI hd), .ref wa])), (ba, .inl (kb, 256, .inl (aB bf)))] s.heap.size = A at hD ⊢
  have hA : ∀ q : Nat, s.heap.size ≤ q → A q := fun q h => by rw [← hAe]; exact Or.inr h
  have hS : va_S A s.heap s.heap [] := va_S.rf
  have hl := lv_entry ([.ref mo]) (n := 1) (Nat.le_of_ble_eq_true rfl)
  refine W.eq (g2 := F0 m 0 (lg_sl ([.ref mo]) ++ List.replicate (1 - (lg_sl ([.ref mo])).length) Slot.unset).toArray []) (by rw [hargs]; exact lg_entry_eq _ _ _) ?_
  generalize (lg_sl ([.ref mo]) ++ List.replicate (1 - (lg_sl ([.ref mo])).length) Slot.unset).toArray = ls at hl ⊢
  have hl : lv_has ls 1 [(0, .ref mo)] := hl
  refine lv_aload_n hx hb dX6_leastOut_0 rfl (lv_at hl 0 rfl) ?_
  refine lv_iconst (v := nI 0) hx hb dX6_leastOut_1 zki_0 ?_
  refine va_put (D := D) (ci := 8) (v := .int (nI 0)) (ty := .int) (C := RX6) (T := TX6) (N := 8) hx hb hts nX6_leastOut_inX6 tyX6 tyX6_ok nmX6 hown hK hP hD hS 0 rfl rfl 0 (by decide) (hts (.fieldLink RX6 26 "GamefieldModel" "thrown" "I") (by decide +kernel)) (fun _ h9 => h9) rfl (by decide +kernel) rfl rfl (Nat.le_of_ble_eq_true rfl) dX6_leastOut_2 (fun H locs hP hD hS => ?_)
  have hP : va_P D vwCl [(mo, .inr (8, [.int (nI 0), .ref ra, .ref ca, .ref ha, .int (nI kp), .ref ba, .int (nI hd), .ref wa])), (ba, .inl (kb, 256, .inl (aB bf)))] H := hP
  have hD : va_D A [(mo, .inr (8, [.int (nI 0), .ref ra, .ref ca, .ref ha, .int (nI kp), .ref ba, .int (nI hd), .ref wa])), (ba, .inl (kb, 256, .inl (aB bf)))] := hD
  refine lv_aload_n hx hb dX6_leastOut_5 rfl (lv_at hl 0 rfl) ?_
  refine va_get (D := D) (ci := 8) (v := .ref ba) (C := RX6) (T := TX6) (N := 8) hx hb hts nX6_leastOut_inX6 hown hK hP 0 rfl rfl 5 (by decide) (hts (.fieldLink RX6 19 "GamefieldModel" "basket" "[Z") (by decide +kernel)) (fun _ h9 => h9) rfl dX6_leastOut_6 ?_
  refine z_ci (va_runS (As := [.ref ba]) (rest := []) ⟨hx, hb, hml, hown, hts⟩ (c_X6_leastOutOf_256 l D ba kb bf ) (va_cwS 1 hts gX6_leastOut_X6_leastOutOf rfl rfl rfl (by decide +kernel) ⟨Nat.le_of_ble_eq_true rfl, Nat.le_of_ble_eq_true rfl⟩) ⟨(z_fb1), fun U hU hW => ⟨rfl, by rw [hU]; exact (hP.sub (ws' := [(ba, .inl (kb, 256, .inl (aB bf)))]) [1] rfl), va_K.moved hW.alike hK⟩⟩ rfl rfl hl.1 rfl (lv_room (Nat.le_of_ble_eq_true rfl)) dX6_leastOut_9 ⟨Nat.le_of_ble_eq_true rfl, Nat.le_of_ble_eq_true rfl⟩) (fun r9 e9 => ?_)
  subst e9
  have hP9 := hP.sub (ws' := [(mo, .inr (8, [.int (nI 0), .ref ra, .ref ca, .ref ha, .int (nI kp), .ref ba, .int (nI hd), .ref wa])), (ba, .inl (kb, 256, .inl (aB bf)))]) [0, 1] rfl
  have hD9 := hD.sub (ws' := [(mo, .inr (8, [.int (nI 0), .ref ra, .ref ca, .ref ha, .int (nI kp), .ref ba, .int (nI hd), .ref wa])), (ba, .inl (kb, 256, .inl (aB bf)))]) [0, 1] (by decide) rfl
  have hK9 := hK.sub (tys' := [(kb, .boolean)]) [0] rfl
  subst hAe
  refine W.widen (k := 0) (n := 0) (Nat.le_of_ble_eq_true rfl) (Nat.le_of_ble_eq_true rfl) ?_
  exact W.iret hx hb hr (fun t ht hW => ⟨⟨_, (), rfl, (rfl), by rw [ht]; exact hP9, va_K.moved hW.alike hK9, hD9⟩, hS.F ht⟩) hS.2.2 dX6_leastOut_12
abbrev rm_c_X6_has : Room := { frames := 1, cells := 0, slots := 0, locals := 21 }
abbrev q_c_X6_has (D : va_G) (sz : Nat) (mo : Nat) (ra : Nat) (ca : Nat) (ha : Nat) (ba : Nat) (wa : Nat) (kp : Nat) (hd : Nat) (kb : ClassId) (th : Nat) (bf : Nat → Bool) (x0 : Int32) : Array Value → State → Outcome → State → Prop := va_Qi (fun r (_ : Unit) => r = (bI (ixB bf x0))) (fun (_ : Unit) t => va_P D vwCl [(mo, .inr (8, [.int (nI 0), .ref ra, .ref ca, .ref ha, .int (nI kp), .ref ba, .int (nI hd), .ref wa])), (ba, .inl (kb, 256, .inl (aB bf)))] t.heap ∧ va_K D vwCl [(kb, .boolean)] t ∧ va_D (va_A [(mo, .inr (8, [.int (nI th), .ref ra, .ref ca, .ref ha, .int (nI kp), .ref ba, .int (nI hd), .ref wa])), (ba, .inl (kb, 256, .inl (aB bf)))] sz) [(mo, .inr (8, [.int (nI 0), .ref ra, .ref ca, .ref ha, .int (nI kp), .ref ba, .int (nI hd), .ref wa])), (ba, .inl (kb, 256, .inl (aB bf)))]) (va_A [(mo, .inr (8, [.int (nI th), .ref ra, .ref ca, .ref ha, .int (nI kp), .ref ba, .int (nI hd), .ref wa])), (ba, .inl (kb, 256, .inl (aB bf)))] sz)
set_option maxHeartbeats 4000000 in
set_option maxRecDepth 100000 in
theorem c_X6_has (l : Launch) (D : va_G) (sz : Nat) (mo : Nat) (ra : Nat) (ca : Nat) (ha : Nat) (ba : Nat) (wa : Nat) (kp : Nat) (hd : Nat) (kb : ClassId) (th : Nat) (bf : Nat → Bool) (x0 : Int32) : Met l yX6_has wsX6_has rm_c_X6_has (va_Pc [.ref mo, .int x0] (fun U => U.heap.size = sz ∧ va_P D vwCl [(mo, .inr (8, [.int (nI th), .ref ra, .ref ca, .ref ha, .int (nI kp), .ref ba, .int (nI hd), .ref wa])), (ba, .inl (kb, 256, .inl (aB bf)))] U.heap ∧ va_K D vwCl [(kb, .boolean)] U ∧ va_D (fun _ => True) [(mo, .inr (8, [.int (nI th), .ref ra, .ref ca, .ref ha, .int (nI kp), .ref ba, .int (nI hd), .ref wa])), (ba, .inl (kb, 256, .inl (aB bf)))])) (q_c_X6_has D sz mo ra ca ha ba wa kp hd kb th bf x0) 0 0 (va_A [(mo, .inr (8, [.int (nI th), .ref ra, .ref ca, .ref ha, .int (nI kp), .ref ba, .int (nI hd), .ref wa])), (ba, .inl (kb, 256, .inl (aB bf)))] sz) := by
  refine Met.ofW (cc := cX6_has) (maxL := 2) (ret := (some .boolean)) (by decide) rfl ?_
  intro p e s m args below meth c s₁ B hml hv
  obtain ⟨hargs, hsz, hP, hK, hD0⟩ := hv
  have hx := B.exec
  have hb := B.bytes
  have hr := B.returns
  have hts := atoms_spec (ws := wsX6_has) B.pre
  have hown : s.vm.findClass RX6 = some m.cls := findClass_of_methodNamed B.named
  have hlocks := B.notSynchronized
  subst hsz
  have hD := hD0.self (sz := s.heap.size)
  generalize hAe : va_A [(mo, .inr (8, [.int (nI th), .ref ra, .ref ca, .ref ha, .int (nI kp), .ref ba, .int (nI hd), .ref wa])), (ba, .inl (kb, 256, .inl (aB bf)))] s.heap.size = A at hD ⊢
  have hA : ∀ q : Nat, s.heap.size ≤ q → A q := fun q h => by rw [← hAe]; exact Or.inr h
  have hS : va_S A s.heap s.heap [] := va_S.rf
  have hl := lv_entry ([.ref mo, .int x0]) (n := 2) (Nat.le_of_ble_eq_true rfl)
  refine W.eq (g2 := F0 m 0 (lg_sl ([.ref mo, .int x0]) ++ List.replicate (2 - (lg_sl ([.ref mo, .int x0])).length) Slot.unset).toArray []) (by rw [hargs]; exact lg_entry_eq _ _ _) ?_
  generalize (lg_sl ([.ref mo, .int x0]) ++ List.replicate (2 - (lg_sl ([.ref mo, .int x0])).length) Slot.unset).toArray = ls at hl ⊢
  have hl : lv_has ls 2 [(0, .ref mo), (1, .int x0)] := hl
  refine lv_aload_n hx hb dX6_has_0 rfl (lv_at hl 0 rfl) ?_
  refine lv_iconst (v := nI 0) hx hb dX6_has_1 zki_0 ?_
  refine va_put (D := D) (ci := 8) (v := .int (nI 0)) (ty := .int) (C := RX6) (T := TX6) (N := 8) hx hb hts nX6_has_inX6 tyX6 tyX6_ok nmX6 hown hK hP hD hS 0 rfl rfl 0 (by decide) (hts (.fieldLink RX6 26 "GamefieldModel" "thrown" "I") (by decide +kernel)) (fun _ h9 => h9) rfl (by decide +kernel) rfl rfl (Nat.le_of_ble_eq_true rfl) dX6_has_2 (fun H locs hP hD hS => ?_)
  have hP : va_P D vwCl [(mo, .inr (8, [.int (nI 0), .ref ra, .ref ca, .ref ha, .int (nI kp), .ref ba, .int (nI hd), .ref wa])), (ba, .inl (kb, 256, .inl (aB bf)))] H := hP
  have hD : va_D A [(mo, .inr (8, [.int (nI 0), .ref ra, .ref ca, .ref ha, .int (nI kp), .ref ba, .int (nI hd), .ref wa])), (ba, .inl (kb, 256, .inl (aB bf)))] := hD
  refine lv_iload_n hx hb dX6_has_5 rfl (lv_at hl 1 rfl) ?_
  refine lv_sipush (v := nI 256) hx hb dX6_has_6 zks_256 ?_
  refine z_ci (va_runS (As := [.int x0, .int (nI 256)]) (rest := []) ⟨hx, hb, hml, hown, hts⟩ (c_X6_isNumber l D x0 256 (by omega)) (va_cwS 2 hts gX6_has_X6_isNumber rfl rfl rfl (by decide +kernel) ⟨Nat.le_of_ble_eq_true rfl, Nat.le_of_ble_eq_true rfl⟩) ⟨z_fb0, fun U hU hW => ⟨rfl, trivial⟩⟩ rfl rfl hl.1 rfl (lv_room (Nat.le_of_ble_eq_true rfl)) dX6_has_9 ⟨Nat.le_of_ble_eq_true rfl, Nat.le_of_ble_eq_true rfl⟩) (fun r9 e9 => ?_)
  subst e9
  refine z_beq (tgt := 28) hx hb dX6_has_12 (by decide) (fun c_12 => ?_) (fun c_12 => ?_)
  · refine lv_iconst (v := nI 0) hx hb dX6_has_28 zki_0 ?_
    have hP9 := hP.sub (ws' := [(mo, .inr (8, [.int (nI 0), .ref ra, .ref ca, .ref ha, .int (nI kp), .ref ba, .int (nI hd), .ref wa])), (ba, .inl (kb, 256, .inl (aB bf)))]) [0, 1] rfl
    have hD9 := hD.sub (ws' := [(mo, .inr (8, [.int (nI 0), .ref ra, .ref ca, .ref ha, .int (nI kp), .ref ba, .int (nI hd), .ref wa])), (ba, .inl (kb, 256, .inl (aB bf)))]) [0, 1] (by decide) rfl
    have hK9 := hK.sub (tys' := [(kb, .boolean)]) [0] rfl
    subst hAe
    refine W.widen (k := 0) (n := 0) (Nat.le_of_ble_eq_true rfl) (Nat.le_of_ble_eq_true rfl) ?_
    refine zt (show nI 0 = bI false from rfl) ?_
    exact W.zret (ty := .boolean) hx hb hr (z_narB _) (fun t ht hW => ⟨⟨_, (), rfl, (congrArg bI (by first | rw [ixB_n hj, c_21] | rw [ixB_f (show inB x0 = false from c_12)])), by rw [ht]; exact hP9, va_K.moved hW.alike hK9, hD9⟩, hS.F ht⟩) hS.2.2 dX6_has_29
  · obtain ⟨j, hj, rfl⟩ := inN_of (by decide) c_12
    refine lv_aload_n hx hb dX6_has_15 rfl (lv_at hl 0 rfl) ?_
    refine va_get (D := D) (ci := 8) (v := .ref ba) (C := RX6) (T := TX6) (N := 8) hx hb hts nX6_has_inX6 hown hK hP 0 rfl rfl 5 (by decide) (hts (.fieldLink RX6 19 "GamefieldModel" "basket" "[Z") (by decide +kernel)) (fun _ h9 => h9) rfl dX6_has_16 ?_
    refine lv_iload_n hx hb dX6_has_19 rfl (lv_at hl 1 rfl) ?_
    refine z_zald hx hb hK hP 1 0 rfl rfl (by omega) (by decide) dX6_has_20 ?_
    refine z_beq (tgt := 28) hx hb dX6_has_21 (by decide) (fun c_21 => ?_) (fun c_21 => ?_)
    · refine lv_iconst (v := nI 0) hx hb dX6_has_28 zki_0 ?_
      have hP9 := hP.sub (ws' := [(mo, .inr (8, [.int (nI 0), .ref ra, .ref ca, .ref ha, .int (nI kp), .ref ba, .int (nI hd), .ref wa])), (ba, .inl (kb, 256, .inl (aB bf)))]) [0, 1] rfl
      have hD9 := hD.sub (ws' := [(mo, .inr (8, [.int (nI 0), .ref ra, .ref ca, .ref ha, .int (nI kp), .ref ba, .int (nI hd), .ref wa])), (ba, .inl (kb, 256, .inl (aB bf)))]) [0, 1] (by decide) rfl
      have hK9 := hK.sub (tys' := [(kb, .boolean)]) [0] rfl
      subst hAe
      refine W.widen (k := 0) (n := 0) (Nat.le_of_ble_eq_true rfl) (Nat.le_of_ble_eq_true rfl) ?_
      refine zt (show nI 0 = bI false from rfl) ?_
      exact W.zret (ty := .boolean) hx hb hr (z_narB _) (fun t ht hW => ⟨⟨_, (), rfl, (congrArg bI (by first | rw [ixB_n hj, c_21] | rw [ixB_f (show inB x0 = false from c_12)])), by rw [ht]; exact hP9, va_K.moved hW.alike hK9, hD9⟩, hS.F ht⟩) hS.2.2 dX6_has_29
    · refine lv_iconst (v := nI 1) hx hb dX6_has_24 zki_1 ?_
      refine lv_goto (tgt := 29) hx hb dX6_has_25 (by decide) ?_
      have hP9 := hP.sub (ws' := [(mo, .inr (8, [.int (nI 0), .ref ra, .ref ca, .ref ha, .int (nI kp), .ref ba, .int (nI hd), .ref wa])), (ba, .inl (kb, 256, .inl (aB bf)))]) [0, 1] rfl
      have hD9 := hD.sub (ws' := [(mo, .inr (8, [.int (nI 0), .ref ra, .ref ca, .ref ha, .int (nI kp), .ref ba, .int (nI hd), .ref wa])), (ba, .inl (kb, 256, .inl (aB bf)))]) [0, 1] (by decide) rfl
      have hK9 := hK.sub (tys' := [(kb, .boolean)]) [0] rfl
      subst hAe
      refine W.widen (k := 0) (n := 0) (Nat.le_of_ble_eq_true rfl) (Nat.le_of_ble_eq_true rfl) ?_
      refine zt (show nI 1 = bI true from rfl) ?_
      exact W.zret (ty := .boolean) hx hb hr (z_narB _) (fun t ht hW => ⟨⟨_, (), rfl, (congrArg bI (by first | rw [ixB_n hj, c_21] | rw [ixB_f (show inB x0 = false from c_12)])), by rw [ht]; exact hP9, va_K.moved hW.alike hK9, hD9⟩, hS.F ht⟩) hS.2.2 dX6_has_29
abbrev rm_c_X6_take : Room := { frames := 2, cells := 0, slots := 0, locals := 42 }
abbrev q_c_X6_take (D : va_G) (sz : Nat) (mo : Nat) (ra : Nat) (ca : Nat) (ha : Nat) (ba : Nat) (wa : Nat) (kp : Nat) (hd : Nat) (kb : ClassId) (th : Nat) (bf : Nat → Bool) (x0 : Int32) : Array Value → State → Outcome → State → Prop := va_Qi (fun r (_ : Unit) => r = (bI (ixB bf x0))) (fun (_ : Unit) t => va_P D vwCl [(mo, .inr (8, [.int (nI 0), .ref ra, .ref ca, .ref ha, .int (nI kp), .ref ba, .int (nI hd), .ref wa])), (ba, .inl (kb, 256, .inl (aB (rmB bf x0))))] t.heap ∧ va_K D vwCl [(kb, .boolean)] t ∧ va_D (va_A [(mo, .inr (8, [.int (nI th), .ref ra, .ref ca, .ref ha, .int (nI kp), .ref ba, .int (nI hd), .ref wa])), (ba, .inl (kb, 256, .inl (aB bf)))] sz) [(mo, .inr (8, [.int (nI 0), .ref ra, .ref ca, .ref ha, .int (nI kp), .ref ba, .int (nI hd), .ref wa])), (ba, .inl (kb, 256, .inl (aB (rmB bf x0))))]) (va_A [(mo, .inr (8, [.int (nI th), .ref ra, .ref ca, .ref ha, .int (nI kp), .ref ba, .int (nI hd), .ref wa])), (ba, .inl (kb, 256, .inl (aB bf)))] sz)
set_option maxHeartbeats 4000000 in
set_option maxRecDepth 100000 in
theorem c_X6_take (l : Launch) (D : va_G) (sz : Nat) (mo : Nat) (ra : Nat) (ca : Nat) (ha : Nat) (ba : Nat) (wa : Nat) (kp : Nat) (hd : Nat) (kb : ClassId) (th : Nat) (bf : Nat → Bool) (x0 : Int32) : Met l yX6_take wsX6_take rm_c_X6_take (va_Pc [.ref mo, .int x0] (fun U => U.heap.size = sz ∧ va_P D vwCl [(mo, .inr (8, [.int (nI th), .ref ra, .ref ca, .ref ha, .int (nI kp), .ref ba, .int (nI hd), .ref wa])), (ba, .inl (kb, 256, .inl (aB bf)))] U.heap ∧ va_K D vwCl [(kb, .boolean)] U ∧ va_D (fun _ => True) [(mo, .inr (8, [.int (nI th), .ref ra, .ref ca, .ref ha, .int (nI kp), .ref ba, .int (nI hd), .ref wa])), (ba, .inl (kb, 256, .inl (aB bf)))])) (q_c_X6_take D sz mo ra ca ha ba wa kp hd kb th bf x0) 0 0 (va_A [(mo, .inr (8, [.int (nI th), .ref ra, .ref ca, .ref ha, .int (nI kp), .ref ba, .int (nI hd), .ref wa])), (ba, .inl (kb, 256, .inl (aB bf)))] sz) := by
  refine Met.ofW (cc := cX6_take) (maxL := 3) (ret := (some .boolean)) (by decide) rfl ?_
  intro p e s m args below meth c s₁ B hml hv
  obtain ⟨hargs, hsz, hP, hK, hD0⟩ := hv
  have hx := B.exec
  have hb := B.bytes
  have hr := B.returns
  have hts := atoms_spec (ws := wsX6_take) B.pre
  have hown : s.vm.findClass RX6 = some m.cls := findClass_of_methodNamed B.named
  have hlocks := B.notSynchronized
  subst hsz
  have hD := hD0.self (sz := s.heap.size)
  generalize hAe : va_A [(mo, .inr (8, [.int (nI th), .ref ra, .ref ca, .ref ha, .int (nI kp), .ref ba, .int (nI hd), .ref wa])), (ba, .inl (kb, 256, .inl (aB bf)))] s.heap.size = A at hD ⊢
  have hA : ∀ q : Nat, s.heap.size ≤ q → A q := fun q h => by rw [← hAe]; exact Or.inr h
  have hS : va_S A s.heap s.heap [] := va_S.rf
  have hl := lv_entry ([.ref mo, .int x0]) (n := 3) (Nat.le_of_ble_eq_true rfl)
  refine W.eq (g2 := F0 m 0 (lg_sl ([.ref mo, .int x0]) ++ List.replicate (3 - (lg_sl ([.ref mo, .int x0])).length) Slot.unset).toArray []) (by rw [hargs]; exact lg_entry_eq _ _ _) ?_
  generalize (lg_sl ([.ref mo, .int x0]) ++ List.replicate (3 - (lg_sl ([.ref mo, .int x0])).length) Slot.unset).toArray = ls at hl ⊢
  have hl : lv_has ls 3 [(0, .ref mo), (1, .int x0)] := hl
  refine lv_aload_n hx hb dX6_take_0 rfl (lv_at hl 0 rfl) ?_
  refine lv_iload_n hx hb dX6_take_1 rfl (lv_at hl 1 rfl) ?_
  have hPc := hP.sub (ws' := [(mo, .inr (8, [.int (nI th), .ref ra, .ref ca, .ref ha, .int (nI kp), .ref ba, .int (nI hd), .ref wa])), (ba, .inl (kb, 256, .inl (aB bf)))]) [0, 1] rfl
  have hDc := hD.sub (ws' := [(mo, .inr (8, [.int (nI th), .ref ra, .ref ca, .ref ha, .int (nI kp), .ref ba, .int (nI hd), .ref wa])), (ba, .inl (kb, 256, .inl (aB bf)))]) [0, 1] (by decide) rfl
  have hKc := hK.sub (tys' := [(kb, .boolean)]) [0] rfl
  have hFc := va_free (wc := [(mo, .inr (8, [.int (nI th), .ref ra, .ref ca, .ref ha, .int (nI kp), .ref ba, .int (nI hd), .ref wa])), (ba, .inl (kb, 256, .inl (aB bf)))]) hD hS hA [0, 1] rfl
  refine va_calli (va_runV (As := [.int x0]) (rest := []) ⟨hx, hb, hml, hown, hts⟩ (c_X6_has l D s.heap.size mo ra ca ha ba wa kp hd kb th bf x0 ) (cwV 1 hts gX6_take_X6_has rfl rfl rfl (by decide +kernel) ⟨Nat.le_of_ble_eq_true rfl, Nat.le_of_ble_eq_true rfl⟩) ⟨(z_fb2), va_recv hK hP (ci := 8) (q0 := 0) rfl rfl, fun U hU hW => ⟨rfl, by rw [hU], by rw [hU]; exact hPc, va_K.moved hW.alike hKc, hDc.weaken (fun _ _ _ _ => trivial)⟩⟩ rfl rfl hl.1 rfl (lv_room (Nat.le_of_ble_eq_true rfl)) dX6_take_2 ⟨Nat.le_of_ble_eq_true rfl, Nat.le_of_ble_eq_true rfl⟩) hS (fun q _ h => hFc q h) hFc (fun r2 u2 t H locs ht hvm e2 hB hz1 hk1 hS => ?_)
  obtain ⟨hP1, hK1, hD1⟩ := hB
  rw [ht] at hP1
  obtain ⟨hP, hD⟩ := va_join (wr := []) (w1 := [(mo, .inr (8, [.int (nI 0), .ref ra, .ref ca, .ref ha, .int (nI kp), .ref ba, .int (nI hd), .ref wa])), (ba, .inl (kb, 256, .inl (aB bf)))]) hP hD [0, 1] [] rfl rfl (by decide) (by decide) hk1 hFc hP1 hD1
  have hP : va_P D vwCl [(mo, .inr (8, [.int (nI 0), .ref ra, .ref ca, .ref ha, .int (nI kp), .ref ba, .int (nI hd), .ref wa])), (ba, .inl (kb, 256, .inl (aB bf)))] H := hP
  have hD : va_D A [(mo, .inr (8, [.int (nI 0), .ref ra, .ref ca, .ref ha, .int (nI kp), .ref ba, .int (nI hd), .ref wa])), (ba, .inl (kb, 256, .inl (aB bf)))] := hD
  refine W.widen (k := 0) (n := 0) (Nat.le_of_ble_eq_true rfl) (Nat.le_of_ble_eq_true rfl) ?_
  subst e2
  refine lv_istore_n (lv' := [(2, .int (bI (ixB bf x0))), (0, .ref mo), (1, .int x0)]) hx hb dX6_take_5 rfl hl (by decide) rfl (fun ls hl => ?_)
  refine lv_iload_n hx hb dX6_take_6 rfl (lv_at hl 0 rfl) ?_
  refine z_beq (tgt := 17) hx hb dX6_take_7 (by decide) (fun c_7 => ?_) (fun c_7 => ?_)
  · refine lv_iload_n hx hb dX6_take_17 rfl (lv_at hl 0 rfl) ?_
    have hP9 := hP.sub (ws' := [(mo, .inr (8, [.int (nI 0), .ref ra, .ref ca, .ref ha, .int (nI kp), .ref ba, .int (nI hd), .ref wa])), (ba, .inl (kb, 256, .inl (aB bf)))]) [0, 1] rfl
    have hD9 := hD.sub (ws' := [(mo, .inr (8, [.int (nI 0), .ref ra, .ref ca, .ref ha, .int (nI kp), .ref ba, .int (nI hd), .ref wa])), (ba, .inl (kb, 256, .inl (aB bf)))]) [0, 1] (by decide) rfl
    first | rw [← rmB_t hj c_7] at hP9 hD9 | rw [← rmB_f c_7] at hP9 hD9
    have hK9 := hK.sub (tys' := [(kb, .boolean)]) [0] rfl
    subst hAe
    refine W.widen (k := 0) (n := 0) (Nat.le_of_ble_eq_true rfl) (Nat.le_of_ble_eq_true rfl) ?_
    exact W.zret (ty := .boolean) hx hb hr (z_narB _) (fun t ht hW => ⟨⟨_, (), rfl, (congrArg bI (by first | rfl | rw [c_7])), by rw [ht]; exact hP9, va_K.moved hW.alike hK9, hD9⟩, hS.F ht⟩) hS.2.2 dX6_take_18
  · obtain ⟨j, hj, rfl⟩ := ixB_of c_7
    refine lv_aload_n hx hb dX6_take_10 rfl (lv_at hl 1 rfl) ?_
    refine va_get (D := D) (ci := 8) (v := .ref ba) (C := RX6) (T := TX6) (N := 8) hx hb hts nX6_take_inX6 hown hK hP 0 rfl rfl 5 (by decide) (hts (.fieldLink RX6 19 "GamefieldModel" "basket" "[Z") (by decide +kernel)) (fun _ h9 => h9) rfl dX6_take_11 ?_
    refine lv_iload_n hx hb dX6_take_14 rfl (lv_at hl 2 rfl) ?_
    refine lv_iconst (v := nI 0) hx hb dX6_take_15 zki_0 ?_
    refine zt (show nI 0 = bI false from rfl) ?_
    refine z_zast hx hb hK hP hD hS 1 0 rfl rfl (by omega) (by decide) dX6_take_16 (fun H locs hP hD hS => ?_)
    have hP : va_P D vwCl [(mo, .inr (8, [.int (nI 0), .ref ra, .ref ca, .ref ha, .int (nI kp), .ref ba, .int (nI hd), .ref wa])), (ba, .inl (kb, 256, .inl (aB (va_up bf j false))))] H := hP
    have hD : va_D A [(mo, .inr (8, [.int (nI 0), .ref ra, .ref ca, .ref ha, .int (nI kp), .ref ba, .int (nI hd), .ref wa])), (ba, .inl (kb, 256, .inl (aB (va_up bf j false))))] := hD
    refine lv_iload_n hx hb dX6_take_17 rfl (lv_at hl 0 rfl) ?_
    have hP9 := hP.sub (ws' := [(mo, .inr (8, [.int (nI 0), .ref ra, .ref ca, .ref ha, .int (nI kp), .ref ba, .int (nI hd), .ref wa])), (ba, .inl (kb, 256, .inl (aB (va_up bf j false))))]) [0, 1] rfl
    have hD9 := hD.sub (ws' := [(mo, .inr (8, [.int (nI 0), .ref ra, .ref ca, .ref ha, .int (nI kp), .ref ba, .int (nI hd), .ref wa])), (ba, .inl (kb, 256, .inl (aB (va_up bf j false))))]) [0, 1] (by decide) rfl
    first | rw [← rmB_t hj c_7] at hP9 hD9 | rw [← rmB_f c_7] at hP9 hD9
    have hK9 := hK.sub (tys' := [(kb, .boolean)]) [0] rfl
    subst hAe
    refine W.widen (k := 0) (n := 0) (Nat.le_of_ble_eq_true rfl) (Nat.le_of_ble_eq_true rfl) ?_
    exact W.zret (ty := .boolean) hx hb hr (z_narB _) (fun t ht hW => ⟨⟨_, (), rfl, (congrArg bI (by first | rfl | rw [c_7])), by rw [ht]; exact hP9, va_K.moved hW.alike hK9, hD9⟩, hS.F ht⟩) hS.2.2 dX6_take_18
abbrev rm_c_X6_put_ok : Room := { frames := 1, cells := 0, slots := 0, locals := 22 }
abbrev q_c_X6_put_ok (D : va_G) (sz : Nat) (mo : Nat) (ra : Nat) (ca : Nat) (ha : Nat) (ba : Nat) (wa : Nat) (kp : Nat) (hd : Nat) (kb : ClassId) (th : Nat) (bf : Nat → Bool) (j : Nat) : Array Value → State → Outcome → State → Prop := va_Qi (fun r (_ : Unit) => r = (bI (!bf j))) (fun (_ : Unit) t => va_P D vwCl [(mo, .inr (8, [.int (nI 0), .ref ra, .ref ca, .ref ha, .int (nI kp), .ref ba, .int (nI hd), .ref wa])), (ba, .inl (kb, 256, .inl (aB (va_up bf j true))))] t.heap ∧ va_K D vwCl [(kb, .boolean)] t ∧ va_D (va_A [(mo, .inr (8, [.int (nI th), .ref ra, .ref ca, .ref ha, .int (nI kp), .ref ba, .int (nI hd), .ref wa])), (ba, .inl (kb, 256, .inl (aB bf)))] sz) [(mo, .inr (8, [.int (nI 0), .ref ra, .ref ca, .ref ha, .int (nI kp), .ref ba, .int (nI hd), .ref wa])), (ba, .inl (kb, 256, .inl (aB (va_up bf j true))))]) (va_A [(mo, .inr (8, [.int (nI th), .ref ra, .ref ca, .ref ha, .int (nI kp), .ref ba, .int (nI hd), .ref wa])), (ba, .inl (kb, 256, .inl (aB bf)))] sz)
set_option maxHeartbeats 4000000 in
set_option maxRecDepth 100000 in
theorem c_X6_put_ok (l : Launch) (D : va_G) (sz : Nat) (mo : Nat) (ra : Nat) (ca : Nat) (ha : Nat) (ba : Nat) (wa : Nat) (kp : Nat) (hd : Nat) (kb : ClassId) (th : Nat) (bf : Nat → Bool) (j : Nat) (hj : j < 256) : Met l yX6_put wsX6_put rm_c_X6_put_ok (va_Pc [.ref mo, .int (nI j)] (fun U => U.heap.size = sz ∧ va_P D vwCl [(mo, .inr (8, [.int (nI th), .ref ra, .ref ca, .ref ha, .int (nI kp), .ref ba, .int (nI hd), .ref wa])), (ba, .inl (kb, 256, .inl (aB bf)))] U.heap ∧ va_K D vwCl [(kb, .boolean)] U ∧ va_D (fun _ => True) [(mo, .inr (8, [.int (nI th), .ref ra, .ref ca, .ref ha, .int (nI kp), .ref ba, .int (nI hd), .ref wa])), (ba, .inl (kb, 256, .inl (aB bf)))])) (q_c_X6_put_ok D sz mo ra ca ha ba wa kp hd kb th bf j) 0 0 (va_A [(mo, .inr (8, [.int (nI th), .ref ra, .ref ca, .ref ha, .int (nI kp), .ref ba, .int (nI hd), .ref wa])), (ba, .inl (kb, 256, .inl (aB bf)))] sz) := by
  refine Met.ofW (cc := cX6_put) (maxL := 3) (ret := (some .boolean)) (by decide) rfl ?_
  intro p e s m args below meth c s₁ B hml hv
  obtain ⟨hargs, hsz, hP, hK, hD0⟩ := hv
  have hx := B.exec
  have hb := B.bytes
  have hr := B.returns
  have hts := atoms_spec (ws := wsX6_put) B.pre
  have hown : s.vm.findClass RX6 = some m.cls := findClass_of_methodNamed B.named
  have hlocks := B.notSynchronized
  subst hsz
  have hD := hD0.self (sz := s.heap.size)
  generalize hAe : va_A [(mo, .inr (8, [.int (nI th), .ref ra, .ref ca, .ref ha, .int (nI kp), .ref ba, .int (nI hd), .ref wa])), (ba, .inl (kb, 256, .inl (aB bf)))] s.heap.size = A at hD ⊢
  have hA : ∀ q : Nat, s.heap.size ≤ q → A q := fun q h => by rw [← hAe]; exact Or.inr h
  have hS : va_S A s.heap s.heap [] := va_S.rf
  have hl := lv_entry ([.ref mo, .int (nI j)]) (n := 3) (Nat.le_of_ble_eq_true rfl)
  refine W.eq (g2 := F0 m 0 (lg_sl ([.ref mo, .int (nI j)]) ++ List.replicate (3 - (lg_sl ([.ref mo, .int (nI j)])).length) Slot.unset).toArray []) (by rw [hargs]; exact lg_entry_eq _ _ _) ?_
  generalize (lg_sl ([.ref mo, .int (nI j)]) ++ List.replicate (3 - (lg_sl ([.ref mo, .int (nI j)])).length) Slot.unset).toArray = ls at hl ⊢
  have hl : lv_has ls 3 [(0, .ref mo), (1, .int (nI j))] := hl
  refine lv_aload_n hx hb dX6_put_0 rfl (lv_at hl 0 rfl) ?_
  refine lv_iconst (v := nI 0) hx hb dX6_put_1 zki_0 ?_
  refine va_put (D := D) (ci := 8) (v := .int (nI 0)) (ty := .int) (C := RX6) (T := TX6) (N := 8) hx hb hts nX6_put_inX6 tyX6 tyX6_ok nmX6 hown hK hP hD hS 0 rfl rfl 0 (by decide) (hts (.fieldLink RX6 26 "GamefieldModel" "thrown" "I") (by decide +kernel)) (fun _ h9 => h9) rfl (by decide +kernel) rfl rfl (Nat.le_of_ble_eq_true rfl) dX6_put_2 (fun H locs hP hD hS => ?_)
  have hP : va_P D vwCl [(mo, .inr (8, [.int (nI 0), .ref ra, .ref ca, .ref ha, .int (nI kp), .ref ba, .int (nI hd), .ref wa])), (ba, .inl (kb, 256, .inl (aB bf)))] H := hP
  have hD : va_D A [(mo, .inr (8, [.int (nI 0), .ref ra, .ref ca, .ref ha, .int (nI kp), .ref ba, .int (nI hd), .ref wa])), (ba, .inl (kb, 256, .inl (aB bf)))] := hD
  refine lv_aload_n hx hb dX6_put_5 rfl (lv_at hl 0 rfl) ?_
  refine lv_iload_n hx hb dX6_put_6 rfl (lv_at hl 1 rfl) ?_
  refine lv_sipush (v := nI 256) hx hb dX6_put_7 zks_256 ?_
  refine z_ci (va_runS (As := [.int (nI j), .int (nI 256)]) (rest := [.ref mo]) ⟨hx, hb, hml, hown, hts⟩ (c_X6_isNumber_ok l D j 256 (by omega) (by omega)) (va_cwS 2 hts gX6_put_X6_isNumber rfl rfl rfl (by decide +kernel) ⟨Nat.le_of_ble_eq_true rfl, Nat.le_of_ble_eq_true rfl⟩) ⟨z_fb0, fun U hU hW => ⟨rfl, trivial⟩⟩ rfl rfl hl.1 rfl (lv_room (Nat.le_of_ble_eq_true rfl)) dX6_put_10 ⟨Nat.le_of_ble_eq_true rfl, Nat.le_of_ble_eq_true rfl⟩) (fun r10 e10 => ?_)
  subst e10
  refine z_bne (tgt := 20) hx hb dX6_put_13 (by decide) (fun c_13 => ?_) (fun c_13 => absurd c_13 (by decide))
  refine lv_iconst (v := nI 0) hx hb dX6_put_20 zki_0 ?_
  refine lv_iconst (v := nI 1) hx hb dX6_put_21 zki_1 ?_
  have hPc := hP.sub (ws' := [(mo, .inr (8, [.int (nI 0), .ref ra, .ref ca, .ref ha, .int (nI kp), .ref ba, .int (nI hd), .ref wa]))]) [0] rfl
  have hDc := hD.sub (ws' := [(mo, .inr (8, [.int (nI 0), .ref ra, .ref ca, .ref ha, .int (nI kp), .ref ba, .int (nI hd), .ref wa]))]) [0] (by decide) rfl
  have hKc := hK.sub (tys' := []) [] rfl
  have hFc := va_free (wc := [(mo, .inr (8, [.int (nI 0), .ref ra, .ref ca, .ref ha, .int (nI kp), .ref ba, .int (nI hd), .ref wa]))]) hD hS hA [0] rfl
  refine va_calli (va_runV (As := [.int (nI 0), .int (nI 1)]) (rest := []) ⟨hx, hb, hml, hown, hts⟩ (c_X6_fails_false l D H.size mo ra ca ha ba wa kp hd 1 (by omega) (by omega)) (cwV 2 hts gX6_put_X6_fails rfl rfl rfl (by decide +kernel) ⟨Nat.le_of_ble_eq_true rfl, Nat.le_of_ble_eq_true rfl⟩) ⟨(z_fb2), va_recv hK hP (ci := 8) (q0 := 0) rfl rfl, fun U hU hW => ⟨rfl, by rw [hU], by rw [hU]; exact hPc, va_K.moved hW.alike hKc, hDc.weaken (fun _ _ _ _ => trivial)⟩⟩ rfl rfl hl.1 rfl (lv_room (Nat.le_of_ble_eq_true rfl)) dX6_put_22 ⟨Nat.le_of_ble_eq_true rfl, Nat.le_of_ble_eq_true rfl⟩) hS (fun q _ h => hFc q h) hFc (fun r22 u22 t H locs ht hvm e22 hB hz1 hk1 hS => ?_)
  obtain ⟨hP1, hK1, hD1⟩ := hB
  rw [ht] at hP1
  obtain ⟨hP, hD⟩ := va_join (wr := [(ba, .inl (kb, 256, .inl (aB bf)))]) (w1 := [(mo, .inr (8, [.int (nI 0), .ref ra, .ref ca, .ref ha, .int (nI kp), .ref ba, .int (nI hd), .ref wa]))]) hP hD [0] [1] rfl rfl (by decide) (by decide) hk1 hFc hP1 hD1
  have hP : va_P D vwCl [(ba, .inl (kb, 256, .inl (aB bf))), (mo, .inr (8, [.int (nI 0), .ref ra, .ref ca, .ref ha, .int (nI kp), .ref ba, .int (nI hd), .ref wa]))] H := hP
  have hD : va_D A [(ba, .inl (kb, 256, .inl (aB bf))), (mo, .inr (8, [.int (nI 0), .ref ra, .ref ca, .ref ha, .int (nI kp), .ref ba, .int (nI hd), .ref wa]))] := hD
  refine W.widen (k := 0) (n := 0) (Nat.le_of_ble_eq_true rfl) (Nat.le_of_ble_eq_true rfl) ?_
  subst e22
  refine z_beq (tgt := 30) hx hb dX6_put_25 (by decide) (fun c_25 => ?_) (fun c_25 => absurd c_25 (by decide))
  refine lv_aload_n hx hb dX6_put_30 rfl (lv_at hl 0 rfl) ?_
  refine va_get (D := D) (ci := 8) (v := .ref ba) (C := RX6) (T := TX6) (N := 8) hx hb hts nX6_put_inX6 hown hK hP 1 rfl rfl 5 (by decide) (hts (.fieldLink RX6 19 "GamefieldModel" "basket" "[Z") (by decide +kernel)) (fun _ h9 => h9) rfl dX6_put_31 ?_
  refine lv_iload_n hx hb dX6_put_34 rfl (lv_at hl 1 rfl) ?_
  refine z_zald hx hb hK hP 0 0 rfl rfl (by omega) (by decide) dX6_put_35 ?_
  refine z_bne (tgt := 43) hx hb dX6_put_36 (by decide) (fun c_36 => ?_) (fun c_36 => ?_)
  · refine lv_iconst (v := nI 0) hx hb dX6_put_43 zki_0 ?_
    refine lv_istore_n (lv' := [(2, .int (nI 0)), (0, .ref mo), (1, .int (nI j))]) hx hb dX6_put_44 rfl hl (by decide) rfl (fun ls hl => ?_)
    refine lv_aload_n hx hb dX6_put_45 rfl (lv_at hl 1 rfl) ?_
    refine va_get (D := D) (ci := 8) (v := .ref ba) (C := RX6) (T := TX6) (N := 8) hx hb hts nX6_put_inX6 hown hK hP 1 rfl rfl 5 (by decide) (hts (.fieldLink RX6 19 "GamefieldModel" "basket" "[Z") (by decide +kernel)) (fun _ h9 => h9) rfl dX6_put_46 ?_
    refine lv_iload_n hx hb dX6_put_49 rfl (lv_at hl 2 rfl) ?_
    refine lv_iconst (v := nI 1) hx hb dX6_put_50 zki_1 ?_
    refine zt (show nI 1 = bI true from rfl) ?_
    refine z_zast hx hb hK hP hD hS 0 0 rfl rfl (by omega) (by decide) dX6_put_51 (fun H locs hP hD hS => ?_)
    have hP : va_P D vwCl [(ba, .inl (kb, 256, .inl (aB (va_up bf j true)))), (mo, .inr (8, [.int (nI 0), .ref ra, .ref ca, .ref ha, .int (nI kp), .ref ba, .int (nI hd), .ref wa]))] H := hP
    have hD : va_D A [(ba, .inl (kb, 256, .inl (aB (va_up bf j true)))), (mo, .inr (8, [.int (nI 0), .ref ra, .ref ca, .ref ha, .int (nI kp), .ref ba, .int (nI hd), .ref wa]))] := hD
    refine lv_iload_n hx hb dX6_put_52 rfl (lv_at hl 0 rfl) ?_
    have hP9 := hP.sub (ws' := [(mo, .inr (8, [.int (nI 0), .ref ra, .ref ca, .ref ha, .int (nI kp), .ref ba, .int (nI hd), .ref wa])), (ba, .inl (kb, 256, .inl (aB (va_up bf j true))))]) [1, 0] rfl
    have hD9 := hD.sub (ws' := [(mo, .inr (8, [.int (nI 0), .ref ra, .ref ca, .ref ha, .int (nI kp), .ref ba, .int (nI hd), .ref wa])), (ba, .inl (kb, 256, .inl (aB (va_up bf j true))))]) [1, 0] (by decide) rfl
    have hK9 := hK.sub (tys' := [(kb, .boolean)]) [0] rfl
    subst hAe
    refine W.widen (k := 0) (n := 0) (Nat.le_of_ble_eq_true rfl) (Nat.le_of_ble_eq_true rfl) ?_
    refine zt (show nI 0 = bI false from rfl) ?_
    exact W.zret (ty := .boolean) hx hb hr (z_narB _) (fun t ht hW => ⟨⟨_, (), rfl, (congrArg bI (by rw [c_36]; rfl)), by rw [ht]; exact hP9, va_K.moved hW.alike hK9, hD9⟩, hS.F ht⟩) hS.2.2 dX6_put_53
  · refine lv_iconst (v := nI 1) hx hb dX6_put_39 zki_1 ?_
    refine lv_goto (tgt := 44) hx hb dX6_put_40 (by decide) ?_
    refine lv_istore_n (lv' := [(2, .int (nI 1)), (0, .ref mo), (1, .int (nI j))]) hx hb dX6_put_44 rfl hl (by decide) rfl (fun ls hl => ?_)
    refine lv_aload_n hx hb dX6_put_45 rfl (lv_at hl 1 rfl) ?_
    refine va_get (D := D) (ci := 8) (v := .ref ba) (C := RX6) (T := TX6) (N := 8) hx hb hts nX6_put_inX6 hown hK hP 1 rfl rfl 5 (by decide) (hts (.fieldLink RX6 19 "GamefieldModel" "basket" "[Z") (by decide +kernel)) (fun _ h9 => h9) rfl dX6_put_46 ?_
    refine lv_iload_n hx hb dX6_put_49 rfl (lv_at hl 2 rfl) ?_
    refine lv_iconst (v := nI 1) hx hb dX6_put_50 zki_1 ?_
    refine zt (show nI 1 = bI true from rfl) ?_
    refine z_zast hx hb hK hP hD hS 0 0 rfl rfl (by omega) (by decide) dX6_put_51 (fun H locs hP hD hS => ?_)
    have hP : va_P D vwCl [(ba, .inl (kb, 256, .inl (aB (va_up bf j true)))), (mo, .inr (8, [.int (nI 0), .ref ra, .ref ca, .ref ha, .int (nI kp), .ref ba, .int (nI hd), .ref wa]))] H := hP
    have hD : va_D A [(ba, .inl (kb, 256, .inl (aB (va_up bf j true)))), (mo, .inr (8, [.int (nI 0), .ref ra, .ref ca, .ref ha, .int (nI kp), .ref ba, .int (nI hd), .ref wa]))] := hD
    refine lv_iload_n hx hb dX6_put_52 rfl (lv_at hl 0 rfl) ?_
    have hP9 := hP.sub (ws' := [(mo, .inr (8, [.int (nI 0), .ref ra, .ref ca, .ref ha, .int (nI kp), .ref ba, .int (nI hd), .ref wa])), (ba, .inl (kb, 256, .inl (aB (va_up bf j true))))]) [1, 0] rfl
    have hD9 := hD.sub (ws' := [(mo, .inr (8, [.int (nI 0), .ref ra, .ref ca, .ref ha, .int (nI kp), .ref ba, .int (nI hd), .ref wa])), (ba, .inl (kb, 256, .inl (aB (va_up bf j true))))]) [1, 0] (by decide) rfl
    have hK9 := hK.sub (tys' := [(kb, .boolean)]) [0] rfl
    subst hAe
    refine W.widen (k := 0) (n := 0) (Nat.le_of_ble_eq_true rfl) (Nat.le_of_ble_eq_true rfl) ?_
    refine zt (show nI 1 = bI true from rfl) ?_
    exact W.zret (ty := .boolean) hx hb hr (z_narB _) (fun t ht hW => ⟨⟨_, (), rfl, (congrArg bI (by rw [c_36]; rfl)), by rw [ht]; exact hP9, va_K.moved hW.alike hK9, hD9⟩, hS.F ht⟩) hS.2.2 dX6_put_53
abbrev rm_c_X6_put_no : Room := { frames := 1, cells := 0, slots := 0, locals := 22 }
abbrev q_c_X6_put_no (D : va_G) (sz : Nat) (mo : Nat) (ra : Nat) (ca : Nat) (ha : Nat) (ba : Nat) (wa : Nat) (kp : Nat) (hd : Nat) (kb : ClassId) (th : Nat) (bf : Nat → Bool) (x0 : Int32) : Array Value → State → Outcome → State → Prop := va_Qi (fun r (_ : Unit) => r = (bI false)) (fun (_ : Unit) t => va_P D vwCl [(mo, .inr (8, [.int (nI 1), .ref ra, .ref ca, .ref ha, .int (nI kp), .ref ba, .int (nI hd), .ref wa])), (ba, .inl (kb, 256, .inl (aB bf)))] t.heap ∧ va_K D vwCl [(kb, .boolean)] t ∧ va_D (va_A [(mo, .inr (8, [.int (nI th), .ref ra, .ref ca, .ref ha, .int (nI kp), .ref ba, .int (nI hd), .ref wa])), (ba, .inl (kb, 256, .inl (aB bf)))] sz) [(mo, .inr (8, [.int (nI 1), .ref ra, .ref ca, .ref ha, .int (nI kp), .ref ba, .int (nI hd), .ref wa])), (ba, .inl (kb, 256, .inl (aB bf)))]) (va_A [(mo, .inr (8, [.int (nI th), .ref ra, .ref ca, .ref ha, .int (nI kp), .ref ba, .int (nI hd), .ref wa])), (ba, .inl (kb, 256, .inl (aB bf)))] sz)
set_option maxHeartbeats 4000000 in
set_option maxRecDepth 100000 in
theorem c_X6_put_no (l : Launch) (D : va_G) (sz : Nat) (mo : Nat) (ra : Nat) (ca : Nat) (ha : Nat) (ba : Nat) (wa : Nat) (kp : Nat) (hd : Nat) (kb : ClassId) (th : Nat) (bf : Nat → Bool) (x0 : Int32) (hno : inN 256 x0 = false) : Met l yX6_put wsX6_put rm_c_X6_put_no (va_Pc [.ref mo, .int x0] (fun U => U.heap.size = sz ∧ va_P D vwCl [(mo, .inr (8, [.int (nI th), .ref ra, .ref ca, .ref ha, .int (nI kp), .ref ba, .int (nI hd), .ref wa])), (ba, .inl (kb, 256, .inl (aB bf)))] U.heap ∧ va_K D vwCl [(kb, .boolean)] U ∧ va_D (fun _ => True) [(mo, .inr (8, [.int (nI th), .ref ra, .ref ca, .ref ha, .int (nI kp), .ref ba, .int (nI hd), .ref wa])), (ba, .inl (kb, 256, .inl (aB bf)))])) (q_c_X6_put_no D sz mo ra ca ha ba wa kp hd kb th bf x0) 0 0 (va_A [(mo, .inr (8, [.int (nI th), .ref ra, .ref ca, .ref ha, .int (nI kp), .ref ba, .int (nI hd), .ref wa])), (ba, .inl (kb, 256, .inl (aB bf)))] sz) := by
  refine Met.ofW (cc := cX6_put) (maxL := 3) (ret := (some .boolean)) (by decide) rfl ?_
  intro p e s m args below meth c s₁ B hml hv
  obtain ⟨hargs, hsz, hP, hK, hD0⟩ := hv
  have hx := B.exec
  have hb := B.bytes
  have hr := B.returns
  have hts := atoms_spec (ws := wsX6_put) B.pre
  have hown : s.vm.findClass RX6 = some m.cls := findClass_of_methodNamed B.named
  have hlocks := B.notSynchronized
  subst hsz
  have hD := hD0.self (sz := s.heap.size)
  generalize hAe : va_A [(mo, .inr (8, [.int (nI th), .ref ra, .ref ca, .ref ha, .int (nI kp), .ref ba, .int (nI hd), .ref wa])), (ba, .inl (kb, 256, .inl (aB bf)))] s.heap.size = A at hD ⊢
  have hA : ∀ q : Nat, s.heap.size ≤ q → A q := fun q h => by rw [← hAe]; exact Or.inr h
  have hS : va_S A s.heap s.heap [] := va_S.rf
  have hl := lv_entry ([.ref mo, .int x0]) (n := 3) (Nat.le_of_ble_eq_true rfl)
  refine W.eq (g2 := F0 m 0 (lg_sl ([.ref mo, .int x0]) ++ List.replicate (3 - (lg_sl ([.ref mo, .int x0])).length) Slot.unset).toArray []) (by rw [hargs]; exact lg_entry_eq _ _ _) ?_
  generalize (lg_sl ([.ref mo, .int x0]) ++ List.replicate (3 - (lg_sl ([.ref mo, .int x0])).length) Slot.unset).toArray = ls at hl ⊢
  have hl : lv_has ls 3 [(0, .ref mo), (1, .int x0)] := hl
  refine lv_aload_n hx hb dX6_put_0 rfl (lv_at hl 0 rfl) ?_
  refine lv_iconst (v := nI 0) hx hb dX6_put_1 zki_0 ?_
  refine va_put (D := D) (ci := 8) (v := .int (nI 0)) (ty := .int) (C := RX6) (T := TX6) (N := 8) hx hb hts nX6_put_inX6 tyX6 tyX6_ok nmX6 hown hK hP hD hS 0 rfl rfl 0 (by decide) (hts (.fieldLink RX6 26 "GamefieldModel" "thrown" "I") (by decide +kernel)) (fun _ h9 => h9) rfl (by decide +kernel) rfl rfl (Nat.le_of_ble_eq_true rfl) dX6_put_2 (fun H locs hP hD hS => ?_)
  have hP : va_P D vwCl [(mo, .inr (8, [.int (nI 0), .ref ra, .ref ca, .ref ha, .int (nI kp), .ref ba, .int (nI hd), .ref wa])), (ba, .inl (kb, 256, .inl (aB bf)))] H := hP
  have hD : va_D A [(mo, .inr (8, [.int (nI 0), .ref ra, .ref ca, .ref ha, .int (nI kp), .ref ba, .int (nI hd), .ref wa])), (ba, .inl (kb, 256, .inl (aB bf)))] := hD
  refine lv_aload_n hx hb dX6_put_5 rfl (lv_at hl 0 rfl) ?_
  refine lv_iload_n hx hb dX6_put_6 rfl (lv_at hl 1 rfl) ?_
  refine lv_sipush (v := nI 256) hx hb dX6_put_7 zks_256 ?_
  refine z_ci (va_runS (As := [.int x0, .int (nI 256)]) (rest := [.ref mo]) ⟨hx, hb, hml, hown, hts⟩ (c_X6_isNumber l D x0 256 (by omega)) (va_cwS 2 hts gX6_put_X6_isNumber rfl rfl rfl (by decide +kernel) ⟨Nat.le_of_ble_eq_true rfl, Nat.le_of_ble_eq_true rfl⟩) ⟨z_fb0, fun U hU hW => ⟨rfl, trivial⟩⟩ rfl rfl hl.1 rfl (lv_room (Nat.le_of_ble_eq_true rfl)) dX6_put_10 ⟨Nat.le_of_ble_eq_true rfl, Nat.le_of_ble_eq_true rfl⟩) (fun r10 e10 => ?_)
  subst e10
  refine z_bne (tgt := 20) hx hb dX6_put_13 (by decide) (fun c_13 => absurd (hno.symm.trans c_13) (by decide)) (fun c_13 => ?_)
  refine lv_iconst (v := nI 1) hx hb dX6_put_16 zki_1 ?_
  refine lv_goto (tgt := 21) hx hb dX6_put_17 (by decide) ?_
  refine lv_iconst (v := nI 1) hx hb dX6_put_21 zki_1 ?_
  have hPc := hP.sub (ws' := [(mo, .inr (8, [.int (nI 0), .ref ra, .ref ca, .ref ha, .int (nI kp), .ref ba, .int (nI hd), .ref wa]))]) [0] rfl
  have hDc := hD.sub (ws' := [(mo, .inr (8, [.int (nI 0), .ref ra, .ref ca, .ref ha, .int (nI kp), .ref ba, .int (nI hd), .ref wa]))]) [0] (by decide) rfl
  have hKc := hK.sub (tys' := []) [] rfl
  have hFc := va_free (wc := [(mo, .inr (8, [.int (nI 0), .ref ra, .ref ca, .ref ha, .int (nI kp), .ref ba, .int (nI hd), .ref wa]))]) hD hS hA [0] rfl
  refine va_calli (va_runV (As := [.int (nI 1), .int (nI 1)]) (rest := []) ⟨hx, hb, hml, hown, hts⟩ (c_X6_fails_true l D H.size mo ra ca ha ba wa kp hd 1 (by omega) (by omega)) (cwV 2 hts gX6_put_X6_fails rfl rfl rfl (by decide +kernel) ⟨Nat.le_of_ble_eq_true rfl, Nat.le_of_ble_eq_true rfl⟩) ⟨(z_fb2), va_recv hK hP (ci := 8) (q0 := 0) rfl rfl, fun U hU hW => ⟨rfl, by rw [hU], by rw [hU]; exact hPc, va_K.moved hW.alike hKc, hDc.weaken (fun _ _ _ _ => trivial)⟩⟩ rfl rfl hl.1 rfl (lv_room (Nat.le_of_ble_eq_true rfl)) dX6_put_22 ⟨Nat.le_of_ble_eq_true rfl, Nat.le_of_ble_eq_true rfl⟩) hS (fun q _ h => hFc q h) hFc (fun r22 u22 t H locs ht hvm e22 hB hz1 hk1 hS => ?_)
  obtain ⟨hP1, hK1, hD1⟩ := hB
  rw [ht] at hP1
  obtain ⟨hP, hD⟩ := va_join (wr := [(ba, .inl (kb, 256, .inl (aB bf)))]) (w1 := [(mo, .inr (8, [.int (nI 1), .ref ra, .ref ca, .ref ha, .int (nI kp), .ref ba, .int (nI hd), .ref wa]))]) hP hD [0] [1] rfl rfl (by decide) (by decide) hk1 hFc hP1 hD1
  have hP : va_P D vwCl [(ba, .inl (kb, 256, .inl (aB bf))), (mo, .inr (8, [.int (nI 1), .ref ra, .ref ca, .ref ha, .int (nI kp), .ref ba, .int (nI hd), .ref wa]))] H := hP
  have hD : va_D A [(ba, .inl (kb, 256, .inl (aB bf))), (mo, .inr (8, [.int (nI 1), .ref ra, .ref ca, .ref ha, .int (nI kp), .ref ba, .int (nI hd), .ref wa]))] := hD
  refine W.widen (k := 0) (n := 0) (Nat.le_of_ble_eq_true rfl) (Nat.le_of_ble_eq_true rfl) ?_
  subst e22
  refine z_beq (tgt := 30) hx hb dX6_put_25 (by decide) (fun c_25 => absurd c_25 (by decide)) (fun c_25 => ?_)
  refine lv_iconst (v := nI 0) hx hb dX6_put_28 zki_0 ?_
  have hP9 := hP.sub (ws' := [(mo, .inr (8, [.int (nI 1), .ref ra, .ref ca, .ref ha, .int (nI kp), .ref ba, .int (nI hd), .ref wa])), (ba, .inl (kb, 256, .inl (aB bf)))]) [1, 0] rfl
  have hD9 := hD.sub (ws' := [(mo, .inr (8, [.int (nI 1), .ref ra, .ref ca, .ref ha, .int (nI kp), .ref ba, .int (nI hd), .ref wa])), (ba, .inl (kb, 256, .inl (aB bf)))]) [1, 0] (by decide) rfl
  have hK9 := hK.sub (tys' := [(kb, .boolean)]) [0] rfl
  subst hAe
  refine W.widen (k := 0) (n := 0) (Nat.le_of_ble_eq_true rfl) (Nat.le_of_ble_eq_true rfl) ?_
  refine zt (show nI 0 = bI false from rfl) ?_
  exact W.zret (ty := .boolean) hx hb hr (z_narB _) (fun t ht hW => ⟨⟨_, (), rfl, (rfl), by rw [ht]; exact hP9, va_K.moved hW.alike hK9, hD9⟩, hS.F ht⟩) hS.2.2 dX6_put_29
abbrev rm_c_X6_size : Room := { frames := 0, cells := 0, slots := 0, locals := 0 }
abbrev q_c_X6_size (D : va_G) (sz : Nat) (mo : Nat) (ra : Nat) (ca : Nat) (ha : Nat) (ba : Nat) (wa : Nat) (kp : Nat) (hd : Nat) (kb : ClassId) (th : Nat) (bf : Nat → Bool) : Array Value → State → Outcome → State → Prop := va_Qi (fun r (_ : Unit) => r = (nI (cn bf 256))) (fun (_ : Unit) t => va_P D vwCl [(mo, .inr (8, [.int (nI 0), .ref ra, .ref ca, .ref ha, .int (nI kp), .ref ba, .int (nI hd), .ref wa])), (ba, .inl (kb, 256, .inl (aB bf)))] t.heap ∧ va_K D vwCl [(kb, .boolean)] t ∧ va_D (va_A [(mo, .inr (8, [.int (nI th), .ref ra, .ref ca, .ref ha, .int (nI kp), .ref ba, .int (nI hd), .ref wa])), (ba, .inl (kb, 256, .inl (aB bf)))] sz) [(mo, .inr (8, [.int (nI 0), .ref ra, .ref ca, .ref ha, .int (nI kp), .ref ba, .int (nI hd), .ref wa])), (ba, .inl (kb, 256, .inl (aB bf)))]) (va_A [(mo, .inr (8, [.int (nI th), .ref ra, .ref ca, .ref ha, .int (nI kp), .ref ba, .int (nI hd), .ref wa])), (ba, .inl (kb, 256, .inl (aB bf)))] sz)
set_option maxHeartbeats 4000000 in
set_option maxRecDepth 100000 in
theorem c_X6_size (l : Launch) (D : va_G) (sz : Nat) (mo : Nat) (ra : Nat) (ca : Nat) (ha : Nat) (ba : Nat) (wa : Nat) (kp : Nat) (hd : Nat) (kb : ClassId) (th : Nat) (bf : Nat → Bool) : Met l yX6_size wsX6_size rm_c_X6_size (va_Pc [.ref mo] (fun U => U.heap.size = sz ∧ va_P D vwCl [(mo, .inr (8, [.int (nI th), .ref ra, .ref ca, .ref ha, .int (nI kp), .ref ba, .int (nI hd), .ref wa])), (ba, .inl (kb, 256, .inl (aB bf)))] U.heap ∧ va_K D vwCl [(kb, .boolean)] U ∧ va_D (fun _ => True) [(mo, .inr (8, [.int (nI th), .ref ra, .ref ca, .ref ha, .int (nI kp), .ref ba, .int (nI hd), .ref wa])), (ba, .inl (kb, 256, .inl (aB bf)))])) (q_c_X6_size D sz mo ra ca ha ba wa kp hd kb th bf) 0 0 (va_A [(mo, .inr (8, [.int (nI th), .ref ra, .ref ca, .ref ha, .int (nI kp), .ref ba, .int (nI hd), .ref wa])), (ba, .inl (kb, 256, .inl (aB bf)))] sz) := by
  refine Met.ofW (cc := cX6_size) (maxL := 6) (ret := (some .int)) (by decide) rfl ?_
  intro p e s m args below meth c s₁ B hml hv
  obtain ⟨hargs, hsz, hP, hK, hD0⟩ := hv
  have hx := B.exec
  have hb := B.bytes
  have hr := B.returns
  have hts := atoms_spec (ws := wsX6_size) B.pre
  have hown : s.vm.findClass RX6 = some m.cls := findClass_of_methodNamed B.named
  have hlocks := B.notSynchronized
  subst hsz
  have hD := hD0.self (sz := s.heap.size)
  generalize hAe : va_A [(mo, .inr (8, [.int (nI th), .ref ra, .ref ca, .ref ha, .int (nI kp), .ref ba, .int (nI hd), .ref wa])), (ba, .inl (kb, 256, .inl (aB bf)))] s.heap.size = A at hD ⊢
  have hA : ∀ q : Nat, s.heap.size ≤ q → A q := fun q h => by rw [← hAe]; exact Or.inr h
  have hS : va_S A s.heap s.heap [] := va_S.rf
  have hl := lv_entry ([.ref mo]) (n := 6) (Nat.le_of_ble_eq_true rfl)
  refine W.eq (g2 := F0 m 0 (lg_sl ([.ref mo]) ++ List.replicate (6 - (lg_sl ([.ref mo])).length) Slot.unset).toArray []) (by rw [hargs]; exact lg_entry_eq _ _ _) ?_
  generalize (lg_sl ([.ref mo]) ++ List.replicate (6 - (lg_sl ([.ref mo])).length) Slot.unset).toArray = ls at hl ⊢
  have hl : lv_has ls 6 [(0, .ref mo)] := hl
  refine lv_aload_n hx hb dX6_size_0 rfl (lv_at hl 0 rfl) ?_
  refine lv_iconst (v := nI 0) hx hb dX6_size_1 zki_0 ?_
  refine va_put (D := D) (ci := 8) (v := .int (nI 0)) (ty := .int) (C := RX6) (T := TX6) (N := 8) hx hb hts nX6_size_inX6 tyX6 tyX6_ok nmX6 hown hK hP hD hS 0 rfl rfl 0 (by decide) (hts (.fieldLink RX6 26 "GamefieldModel" "thrown" "I") (by decide +kernel)) (fun _ h9 => h9) rfl (by decide +kernel) rfl rfl (Nat.le_of_ble_eq_true rfl) dX6_size_2 (fun H locs hP hD hS => ?_)
  have hP : va_P D vwCl [(mo, .inr (8, [.int (nI 0), .ref ra, .ref ca, .ref ha, .int (nI kp), .ref ba, .int (nI hd), .ref wa])), (ba, .inl (kb, 256, .inl (aB bf)))] H := hP
  have hD : va_D A [(mo, .inr (8, [.int (nI 0), .ref ra, .ref ca, .ref ha, .int (nI kp), .ref ba, .int (nI hd), .ref wa])), (ba, .inl (kb, 256, .inl (aB bf)))] := hD
  refine lv_iconst (v := nI 0) hx hb dX6_size_5 zki_0 ?_
  refine lv_istore_n (lv' := [(1, .int (nI 0)), (0, .ref mo)]) hx hb dX6_size_6 rfl hl (by decide) rfl (fun ls hl => ?_)
  refine lv_aload_n hx hb dX6_size_7 rfl (lv_at hl 1 rfl) ?_
  refine va_get (D := D) (ci := 8) (v := .ref ba) (C := RX6) (T := TX6) (N := 8) hx hb hts nX6_size_inX6 hown hK hP 0 rfl rfl 5 (by decide) (hts (.fieldLink RX6 19 "GamefieldModel" "basket" "[Z") (by decide +kernel)) (fun _ h9 => h9) rfl dX6_size_8 ?_
  refine lv_astore_n (lv' := [(2, .ref ba), (1, .int (nI 0)), (0, .ref mo)]) hx hb dX6_size_11 rfl hl (by decide) rfl (fun ls hl => ?_)
  refine lv_aload_n hx hb dX6_size_12 rfl (lv_at hl 0 rfl) ?_
  refine va_alen (v := nI 256) hx hb hK hP 1 0 rfl rfl rfl dX6_size_13 ?_
  refine lv_istore_n (lv' := [(3, .int (nI 256)), (2, .ref ba), (1, .int (nI 0)), (0, .ref mo)]) hx hb dX6_size_14 rfl hl (by decide) rfl (fun ls hl => ?_)
  refine lv_iconst (v := nI 0) hx hb dX6_size_15 zki_0 ?_
  refine lv_istore (lv' := [(4, .int (nI 0)), (3, .int (nI 256)), (2, .ref ba), (1, .int (nI 0)), (0, .ref mo)]) hx hb dX6_size_16 hl (by decide) rfl (fun ls hl => ?_)
  have cut_18 : ∀ (nn9 : Nat) (i : Nat) (hi : i ≤ 256) (hn9 : 256 - i < nn9) (H : Heap) (locs : List Loc) (hP : va_P D vwCl [(mo, .inr (8, [.int (nI 0), .ref ra, .ref ca, .ref ha, .int (nI kp), .ref ba, .int (nI hd), .ref wa])), (ba, .inl (kb, 256, .inl (aB bf)))] H) (hD : va_D A [(mo, .inr (8, [.int (nI 0), .ref ra, .ref ca, .ref ha, .int (nI kp), .ref ba, .int (nI hd), .ref wa])), (ba, .inl (kb, 256, .inl (aB bf)))]) (hS : va_S A s.heap H locs) (ls : Array Slot) (hl : lv_has ls 6 [(0, .ref mo), (1, .int (nI (cn bf i))), (2, .ref ba), (3, .int (nI 256)), (4, .int (nI i))]), W p l e (headSpec wsX6_size rm_c_X6_size).room s m args below meth c H locs 0 0 (MQ below (q_c_X6_size D s.heap.size mo ra ca ha ba wa kp hd kb th bf) args s 0 0 A) (F0 m 18 ls []) := by
    intro nn9
    induction nn9 with
    | zero => intro i hi hn9; exact absurd hn9 (Nat.not_lt_zero _)
    | succ nn9 ih_18 =>
      intro i hi hn9 H locs hP hD hS ls hl
      refine lv_iload hx hb dX6_size_18 (lv_at hl 4 rfl) ?_
      refine lv_iload_n hx hb dX6_size_20 rfl (lv_at hl 3 rfl) ?_
      refine z_cge (tgt := 49) hx hb (by omega) (by omega) dX6_size_21 (by decide) (fun c_21 => ?_) (fun c_21 => ?_)
      · refine lv_iload_n hx hb dX6_size_49 rfl (lv_at hl 1 rfl) ?_
        have hP9 := hP.sub (ws' := [(mo, .inr (8, [.int (nI 0), .ref ra, .ref ca, .ref ha, .int (nI kp), .ref ba, .int (nI hd), .ref wa])), (ba, .inl (kb, 256, .inl (aB bf)))]) [0, 1] rfl
        have hD9 := hD.sub (ws' := [(mo, .inr (8, [.int (nI 0), .ref ra, .ref ca, .ref ha, .int (nI kp), .ref ba, .int (nI hd), .ref wa])), (ba, .inl (kb, 256, .inl (aB bf)))]) [0, 1] (by decide) rfl
        have hK9 := hK.sub (tys' := [(kb, .boolean)]) [0] rfl
        subst hAe
        refine W.widen (k := 0) (n := 0) (Nat.le_of_ble_eq_true rfl) (Nat.le_of_ble_eq_true rfl) ?_
        exact W.iret hx hb hr (fun t ht hW => ⟨⟨_, (), rfl, (by rw [show i = 256 by omega]), by rw [ht]; exact hP9, va_K.moved hW.alike hK9, hD9⟩, hS.F ht⟩) hS.2.2 dX6_size_50
      · have hcn := cn_le bf i
        refine lv_aload_n hx hb dX6_size_24 rfl (lv_at hl 2 rfl) ?_
        refine lv_iload hx hb dX6_size_25 (lv_at hl 4 rfl) ?_
        refine z_zald hx hb hK hP 1 0 rfl rfl (by omega) (by decide) dX6_size_27 ?_
        refine lv_istore (lv' := [(5, .int (bI (bf i))), (0, .ref mo), (1, .int (nI (cn bf i))), (2, .ref ba), (3, .int (nI 256)), (4, .int (nI i))]) hx hb dX6_size_28 hl (by decide) rfl (fun ls hl => ?_)
        refine lv_iload_n hx hb dX6_size_30 rfl (lv_at hl 2 rfl) ?_
        refine lv_iload hx hb dX6_size_31 (lv_at hl 0 rfl) ?_
        refine z_beq (tgt := 40) hx hb dX6_size_33 (by decide) (fun c_33 => ?_) (fun c_33 => ?_)
        · have e9 : cn bf i + 0 = cn bf (i + 1) := by rw [cn, c_33]; rfl
          refine lv_iconst (v := nI 0) hx hb dX6_size_40 zki_0 ?_
          refine z_add hx hb dX6_size_41 ?_
          refine lv_istore_n (lv' := [(1, .int (nI ((cn bf i) + 0))), (5, .int (bI (bf i))), (0, .ref mo), (2, .ref ba), (3, .int (nI 256)), (4, .int (nI i))]) hx hb dX6_size_42 rfl hl (by decide) rfl (fun ls hl => ?_)
          refine lv_iinc (v := (nI (i + 1))) (lv' := [(4, .int (nI (i + 1))), (1, .int (nI ((cn bf i) + 0))), (5, .int (bI (bf i))), (0, .ref mo), (2, .ref ba), (3, .int (nI 256))]) hx hb dX6_size_43 hl (k := 5) rfl (z_inc i 1) (by decide) rfl (fun ls hl => ?_)
          refine lv_goto (tgt := 18) hx hb dX6_size_46 (by decide) ?_
          have hl : lv_has ls 6 [(4, .int (nI (i + 1))), (1, .int (nI (cn bf (i + 1)))), (5, .int (bI (bf i))), (0, .ref mo), (2, .ref ba), (3, .int (nI 256))] := Eq.mp (congrArg (fun z9 => lv_has ls 6 [(4, .int (nI (i + 1))), (1, .int z9), (5, .int (bI (bf i))), (0, .ref mo), (2, .ref ba), (3, .int (nI 256))]) (congrArg nI (show ((cn bf i) + 0) = cn bf (i + 1) from e9))) hl
          exact ih_18 (i + 1) (by omega) (by omega) H locs hP hD hS ls (lv_sub hl [3, 1, 4, 5, 0] rfl)
        · have e9 : cn bf i + 1 = cn bf (i + 1) := by rw [cn, c_33]; rfl
          refine lv_iconst (v := nI 1) hx hb dX6_size_36 zki_1 ?_
          refine lv_goto (tgt := 41) hx hb dX6_size_37 (by decide) ?_
          refine z_add hx hb dX6_size_41 ?_
          refine lv_istore_n (lv' := [(1, .int (nI ((cn bf i) + 1))), (5, .int (bI (bf i))), (0, .ref mo), (2, .ref ba), (3, .int (nI 256)), (4, .int (nI i))]) hx hb dX6_size_42 rfl hl (by decide) rfl (fun ls hl => ?_)
          refine lv_iinc (v := (nI (i + 1))) (lv' := [(4, .int (nI (i + 1))), (1, .int (nI ((cn bf i) + 1))), (5, .int (bI (bf i))), (0, .ref mo), (2, .ref ba), (3, .int (nI 256))]) hx hb dX6_size_43 hl (k := 5) rfl (z_inc i 1) (by decide) rfl (fun ls hl => ?_)
          refine lv_goto (tgt := 18) hx hb dX6_size_46 (by decide) ?_
          have hl : lv_has ls 6 [(4, .int (nI (i + 1))), (1, .int (nI (cn bf (i + 1)))), (5, .int (bI (bf i))), (0, .ref mo), (2, .ref ba), (3, .int (nI 256))] := Eq.mp (congrArg (fun z9 => lv_has ls 6 [(4, .int (nI (i + 1))), (1, .int z9), (5, .int (bI (bf i))), (0, .ref mo), (2, .ref ba), (3, .int (nI 256))]) (congrArg nI (show ((cn bf i) + 1) = cn bf (i + 1) from e9))) hl
          exact ih_18 (i + 1) (by omega) (by omega) H locs hP hD hS ls (lv_sub hl [3, 1, 4, 5, 0] rfl)
  have hl : lv_has ls 6 [(4, .int (nI 0)), (3, .int (nI 256)), (2, .ref ba), (1, .int (nI (cn bf 0))), (0, .ref mo)] := Eq.mp (congrArg (fun z9 => lv_has ls 6 [(4, .int (nI 0)), (3, .int (nI 256)), (2, .ref ba), (1, .int z9), (0, .ref mo)]) (congrArg nI (show 0 = cn bf 0 from rfl))) hl
  exact cut_18 ((256 - 0) + 1) 0 (by omega) (Nat.lt_succ_self _) H locs hP hD hS ls (lv_sub hl [4, 3, 2, 1, 0] rfl)
abbrev rm_c_X6_becomes_ : Room := { frames := 0, cells := 0, slots := 0, locals := 0 }
abbrev q_c_X6_becomes_ (D : va_G) (sz : Nat) (mo : Nat) (ra : Nat) (ca : Nat) (ha : Nat) (ba : Nat) (wa : Nat) (kp : Nat) (hd : Nat) (kb : ClassId) (th : Nat) (bf : Nat → Bool) (ga : Nat) (kg : ClassId) (g : Nat → Bool) : Array Value → State → Outcome → State → Prop := va_Qi (fun r (_ : Unit) => r = (nI (cm bf g 256))) (fun (_ : Unit) t => va_P D vwCl [(mo, .inr (8, [.int (nI th), .ref ra, .ref ca, .ref ha, .int (nI kp), .ref ba, .int (nI hd), .ref wa])), (ba, .inl (kb, 256, .inl (aB g))), (ga, .inl (kg, 256, .inl (aB g)))] t.heap ∧ va_K D vwCl [(kb, .boolean), (kg, .boolean)] t ∧ va_D (va_A [(mo, .inr (8, [.int (nI th), .ref ra, .ref ca, .ref ha, .int (nI kp), .ref ba, .int (nI hd), .ref wa])), (ba, .inl (kb, 256, .inl (aB bf))), (ga, .inl (kg, 256, .inl (aB g)))] sz) [(mo, .inr (8, [.int (nI th), .ref ra, .ref ca, .ref ha, .int (nI kp), .ref ba, .int (nI hd), .ref wa])), (ba, .inl (kb, 256, .inl (aB g))), (ga, .inl (kg, 256, .inl (aB g)))]) (va_A [(mo, .inr (8, [.int (nI th), .ref ra, .ref ca, .ref ha, .int (nI kp), .ref ba, .int (nI hd), .ref wa])), (ba, .inl (kb, 256, .inl (aB bf))), (ga, .inl (kg, 256, .inl (aB g)))] sz)
set_option maxHeartbeats 4000000 in
set_option maxRecDepth 100000 in
theorem c_X6_becomes_ (l : Launch) (D : va_G) (sz : Nat) (mo : Nat) (ra : Nat) (ca : Nat) (ha : Nat) (ba : Nat) (wa : Nat) (kp : Nat) (hd : Nat) (kb : ClassId) (th : Nat) (bf : Nat → Bool) (ga : Nat) (kg : ClassId) (g : Nat → Bool) : Met l yX6_becomes_ wsX6_becomes_ rm_c_X6_becomes_ (va_Pc [.ref mo, .ref ga] (fun U => U.heap.size = sz ∧ va_P D vwCl [(mo, .inr (8, [.int (nI th), .ref ra, .ref ca, .ref ha, .int (nI kp), .ref ba, .int (nI hd), .ref wa])), (ba, .inl (kb, 256, .inl (aB bf))), (ga, .inl (kg, 256, .inl (aB g)))] U.heap ∧ va_K D vwCl [(kb, .boolean), (kg, .boolean)] U ∧ va_D (fun _ => True) [(mo, .inr (8, [.int (nI th), .ref ra, .ref ca, .ref ha, .int (nI kp), .ref ba, .int (nI hd), .ref wa])), (ba, .inl (kb, 256, .inl (aB bf))), (ga, .inl (kg, 256, .inl (aB g)))])) (q_c_X6_becomes_ D sz mo ra ca ha ba wa kp hd kb th bf ga kg g) 0 0 (va_A [(mo, .inr (8, [.int (nI th), .ref ra, .ref ca, .ref ha, .int (nI kp), .ref ba, .int (nI hd), .ref wa])), (ba, .inl (kb, 256, .inl (aB bf))), (ga, .inl (kg, 256, .inl (aB g)))] sz) := by
  refine Met.ofW (cc := cX6_becomes_) (maxL := 4) (ret := (some .int)) (by decide) rfl ?_
  intro p e s m args below meth c s₁ B hml hv
  obtain ⟨hargs, hsz, hP, hK, hD0⟩ := hv
  have hx := B.exec
  have hb := B.bytes
  have hr := B.returns
  have hts := atoms_spec (ws := wsX6_becomes_) B.pre
  have hown : s.vm.findClass RX6 = some m.cls := findClass_of_methodNamed B.named
  have hlocks := B.notSynchronized
  subst hsz
  have hD := hD0.self (sz := s.heap.size)
  generalize hAe : va_A [(mo, .inr (8, [.int (nI th), .ref ra, .ref ca, .ref ha, .int (nI kp), .ref ba, .int (nI hd), .ref wa])), (ba, .inl (kb, 256, .inl (aB bf))), (ga, .inl (kg, 256, .inl (aB g)))] s.heap.size = A at hD ⊢
  have hA : ∀ q : Nat, s.heap.size ≤ q → A q := fun q h => by rw [← hAe]; exact Or.inr h
  have hS : va_S A s.heap s.heap [] := va_S.rf
  have hl := lv_entry ([.ref mo, .ref ga]) (n := 4) (Nat.le_of_ble_eq_true rfl)
  refine W.eq (g2 := F0 m 0 (lg_sl ([.ref mo, .ref ga]) ++ List.replicate (4 - (lg_sl ([.ref mo, .ref ga])).length) Slot.unset).toArray []) (by rw [hargs]; exact lg_entry_eq _ _ _) ?_
  generalize (lg_sl ([.ref mo, .ref ga]) ++ List.replicate (4 - (lg_sl ([.ref mo, .ref ga])).length) Slot.unset).toArray = ls at hl ⊢
  have hl : lv_has ls 4 [(0, .ref mo), (1, .ref ga)] := hl
  refine lv_iconst (v := nI 0) hx hb dX6_becomes__0 zki_0 ?_
  refine lv_istore_n (lv' := [(2, .int (nI 0)), (0, .ref mo), (1, .ref ga)]) hx hb dX6_becomes__1 rfl hl (by decide) rfl (fun ls hl => ?_)
  refine lv_iconst (v := nI 0) hx hb dX6_becomes__2 zki_0 ?_
  refine lv_istore_n (lv' := [(3, .int (nI 0)), (2, .int (nI 0)), (0, .ref mo), (1, .ref ga)]) hx hb dX6_becomes__3 rfl hl (by decide) rfl (fun ls hl => ?_)
  have cut_4 : ∀ (nn9 : Nat) (i : Nat) (hi : i ≤ 256) (hn9 : 256 - i < nn9) (H : Heap) (locs : List Loc) (hP : va_P D vwCl [(mo, .inr (8, [.int (nI th), .ref ra, .ref ca, .ref ha, .int (nI kp), .ref ba, .int (nI hd), .ref wa])), (ba, .inl (kb, 256, .inl (aB (fil g bf i)))), (ga, .inl (kg, 256, .inl (aB g)))] H) (hD : va_D A [(mo, .inr (8, [.int (nI th), .ref ra, .ref ca, .ref ha, .int (nI kp), .ref ba, .int (nI hd), .ref wa])), (ba, .inl (kb, 256, .inl (aB (fil g bf i)))), (ga, .inl (kg, 256, .inl (aB g)))]) (hS : va_S A s.heap H locs) (ls : Array Slot) (hl : lv_has ls 4 [(0, .ref mo), (1, .ref ga), (2, .int (nI (cm bf g i))), (3, .int (nI i))]), W p l e (headSpec wsX6_becomes_ rm_c_X6_becomes_).room s m args below meth c H locs 0 0 (MQ below (q_c_X6_becomes_ D s.heap.size mo ra ca ha ba wa kp hd kb th bf ga kg g) args s 0 0 A) (F0 m 4 ls []) := by
    intro nn9
    induction nn9 with
    | zero => intro i hi hn9; exact absurd hn9 (Nat.not_lt_zero _)
    | succ nn9 ih_4 =>
      intro i hi hn9 H locs hP hD hS ls hl
      refine lv_iload_n hx hb dX6_becomes__4 rfl (lv_at hl 3 rfl) ?_
      refine lv_sipush (v := nI 256) hx hb dX6_becomes__5 zks_256 ?_
      refine z_cge (tgt := 49) hx hb (by omega) (by omega) dX6_becomes__8 (by decide) (fun c_8 => ?_) (fun c_8 => ?_)
      · refine lv_iload_n hx hb dX6_becomes__49 rfl (lv_at hl 2 rfl) ?_
        have hP9 := hP.sub (ws' := [(mo, .inr (8, [.int (nI th), .ref ra, .ref ca, .ref ha, .int (nI kp), .ref ba, .int (nI hd), .ref wa])), (ba, .inl (kb, 256, .inl (aB (fil g bf i)))), (ga, .inl (kg, 256, .inl (aB g)))]) [0, 1, 2] rfl
        have hD9 := hD.sub (ws' := [(mo, .inr (8, [.int (nI th), .ref ra, .ref ca, .ref ha, .int (nI kp), .ref ba, .int (nI hd), .ref wa])), (ba, .inl (kb, 256, .inl (aB (fil g bf i)))), (ga, .inl (kg, 256, .inl (aB g)))]) [0, 1, 2] (by decide) rfl
        have hP9 := z_recell (k := 1) (g := g) hP9 rfl (fun j hj => fil_at (by omega))
        have hD9 := z_reD (k := 1) (g := g) hD9 rfl
        have hK9 := hK.sub (tys' := [(kb, .boolean), (kg, .boolean)]) [0, 1] rfl
        subst hAe
        refine W.widen (k := 0) (n := 0) (Nat.le_of_ble_eq_true rfl) (Nat.le_of_ble_eq_true rfl) ?_
        exact W.iret hx hb hr (fun t ht hW => ⟨⟨_, (), rfl, (by rw [show i = 256 by omega]), by rw [ht]; exact hP9, va_K.moved hW.alike hK9, hD9⟩, hS.F ht⟩) hS.2.2 dX6_becomes__50
      · have hcm := cm_le bf g i
        have hfi : fil g bf i i = bf i := by simp [fil]
        refine lv_iload_n hx hb dX6_becomes__11 rfl (lv_at hl 2 rfl) ?_
        refine lv_aload_n hx hb dX6_becomes__12 rfl (lv_at hl 1 rfl) ?_
        refine lv_iload_n hx hb dX6_becomes__13 rfl (lv_at hl 3 rfl) ?_
        refine z_zald hx hb hK hP 2 1 rfl rfl (by omega) (by decide) dX6_becomes__14 ?_
        refine z_beq (tgt := 31) hx hb dX6_becomes__15 (by decide) (fun c_15 => ?_) (fun c_15 => ?_)
        · have e9 : cm bf g i + 0 = cm bf g (i + 1) := by rw [cm, c_15]; rfl
          refine lv_iconst (v := nI 0) hx hb dX6_becomes__31 zki_0 ?_
          refine z_add hx hb dX6_becomes__32 ?_
          refine lv_istore_n (lv' := [(2, .int (nI ((cm bf g i) + 0))), (0, .ref mo), (1, .ref ga), (3, .int (nI i))]) hx hb dX6_becomes__33 rfl hl (by decide) rfl (fun ls hl => ?_)
          refine lv_aload_n hx hb dX6_becomes__34 rfl (lv_at hl 1 rfl) ?_
          refine va_get (D := D) (ci := 8) (v := .ref ba) (C := RX6) (T := TX6) (N := 8) hx hb hts nX6_becomes__inX6 hown hK hP 0 rfl rfl 5 (by decide) (hts (.fieldLink RX6 19 "GamefieldModel" "basket" "[Z") (by decide +kernel)) (fun _ h9 => h9) rfl dX6_becomes__35 ?_
          refine lv_iload_n hx hb dX6_becomes__38 rfl (lv_at hl 3 rfl) ?_
          refine lv_aload_n hx hb dX6_becomes__39 rfl (lv_at hl 2 rfl) ?_
          refine lv_iload_n hx hb dX6_becomes__40 rfl (lv_at hl 3 rfl) ?_
          refine z_zald hx hb hK hP 2 1 rfl rfl (by omega) (by decide) dX6_becomes__41 ?_
          refine z_zast hx hb hK hP hD hS 1 0 rfl rfl (by omega) (by decide) dX6_becomes__42 (fun H locs hP hD hS => ?_)
          have hP : va_P D vwCl [(mo, .inr (8, [.int (nI th), .ref ra, .ref ca, .ref ha, .int (nI kp), .ref ba, .int (nI hd), .ref wa])), (ba, .inl (kb, 256, .inl (aB (va_up (fil g bf i) i (g i))))), (ga, .inl (kg, 256, .inl (aB g)))] H := hP
          have hD : va_D A [(mo, .inr (8, [.int (nI th), .ref ra, .ref ca, .ref ha, .int (nI kp), .ref ba, .int (nI hd), .ref wa])), (ba, .inl (kb, 256, .inl (aB (va_up (fil g bf i) i (g i))))), (ga, .inl (kg, 256, .inl (aB g)))] := hD
          refine lv_iinc (v := (nI (i + 1))) (lv' := [(3, .int (nI (i + 1))), (2, .int (nI ((cm bf g i) + 0))), (0, .ref mo), (1, .ref ga)]) hx hb dX6_becomes__43 hl (k := 3) rfl (z_inc i 1) (by decide) rfl (fun ls hl => ?_)
          refine lv_goto (tgt := 4) hx hb dX6_becomes__46 (by decide) ?_
          have hl : lv_has ls 4 [(3, .int (nI (i + 1))), (2, .int (nI (cm bf g (i + 1)))), (0, .ref mo), (1, .ref ga)] := Eq.mp (congrArg (fun z9 => lv_has ls 4 [(3, .int (nI (i + 1))), (2, .int z9), (0, .ref mo), (1, .ref ga)]) (congrArg nI (show ((cm bf g i) + 0) = cm bf g (i + 1) from e9))) hl
          have hP : va_P D vwCl [(mo, .inr (8, [.int (nI th), .ref ra, .ref ca, .ref ha, .int (nI kp), .ref ba, .int (nI hd), .ref wa])), (ba, .inl (kb, 256, .inl (aB (fil g bf (i + 1))))), (ga, .inl (kg, 256, .inl (aB g)))] H := Eq.mp (congrArg (fun z9 => va_P D vwCl [(mo, .inr (8, [.int (nI th), .ref ra, .ref ca, .ref ha, .int (nI kp), .ref ba, .int (nI hd), .ref wa])), (ba, .inl (kb, 256, .inl (aB z9))), (ga, .inl (kg, 256, .inl (aB g)))] H) ((show va_up (fil g bf i) i (g i) = fil g bf (i + 1) from fil_s _ _ _))) hP
          have hD : va_D A [(mo, .inr (8, [.int (nI th), .ref ra, .ref ca, .ref ha, .int (nI kp), .ref ba, .int (nI hd), .ref wa])), (ba, .inl (kb, 256, .inl (aB (fil g bf (i + 1))))), (ga, .inl (kg, 256, .inl (aB g)))] := Eq.mp (congrArg (fun z9 => va_D A [(mo, .inr (8, [.int (nI th), .ref ra, .ref ca, .ref ha, .int (nI kp), .ref ba, .int (nI hd), .ref wa])), (ba, .inl (kb, 256, .inl (aB z9))), (ga, .inl (kg, 256, .inl (aB g)))]) ((show va_up (fil g bf i) i (g i) = fil g bf (i + 1) from fil_s _ _ _))) hD
          exact ih_4 (i + 1) (by omega) (by omega) H locs hP hD hS ls (lv_sub hl [2, 3, 1, 0] rfl)
        · refine lv_aload_n hx hb dX6_becomes__18 rfl (lv_at hl 0 rfl) ?_
          refine va_get (D := D) (ci := 8) (v := .ref ba) (C := RX6) (T := TX6) (N := 8) hx hb hts nX6_becomes__inX6 hown hK hP 0 rfl rfl 5 (by decide) (hts (.fieldLink RX6 19 "GamefieldModel" "basket" "[Z") (by decide +kernel)) (fun _ h9 => h9) rfl dX6_becomes__19 ?_
          refine lv_iload_n hx hb dX6_becomes__22 rfl (lv_at hl 3 rfl) ?_
          refine z_zald hx hb hK hP 1 0 rfl rfl (by omega) (by decide) dX6_becomes__23 ?_
          refine z_bne (tgt := 31) hx hb dX6_becomes__24 (by decide) (fun c_24 => ?_) (fun c_24 => ?_)
          · have e9 : cm bf g i + 0 = cm bf g (i + 1) := by rw [hfi] at c_24; rw [cm, c_15, c_24]; rfl
            refine lv_iconst (v := nI 0) hx hb dX6_becomes__31 zki_0 ?_
            refine z_add hx hb dX6_becomes__32 ?_
            refine lv_istore_n (lv' := [(2, .int (nI ((cm bf g i) + 0))), (0, .ref mo), (1, .ref ga), (3, .int (nI i))]) hx hb dX6_becomes__33 rfl hl (by decide) rfl (fun ls hl => ?_)
            refine lv_aload_n hx hb dX6_becomes__34 rfl (lv_at hl 1 rfl) ?_
            refine va_get (D := D) (ci := 8) (v := .ref ba) (C := RX6) (T := TX6) (N := 8) hx hb hts nX6_becomes__inX6 hown hK hP 0 rfl rfl 5 (by decide) (hts (.fieldLink RX6 19 "GamefieldModel" "basket" "[Z") (by decide +kernel)) (fun _ h9 => h9) rfl dX6_becomes__35 ?_
            refine lv_iload_n hx hb dX6_becomes__38 rfl (lv_at hl 3 rfl) ?_
            refine lv_aload_n hx hb dX6_becomes__39 rfl (lv_at hl 2 rfl) ?_
            refine lv_iload_n hx hb dX6_becomes__40 rfl (lv_at hl 3 rfl) ?_
            refine z_zald hx hb hK hP 2 1 rfl rfl (by omega) (by decide) dX6_becomes__41 ?_
            refine z_zast hx hb hK hP hD hS 1 0 rfl rfl (by omega) (by decide) dX6_becomes__42 (fun H locs hP hD hS => ?_)
            have hP : va_P D vwCl [(mo, .inr (8, [.int (nI th), .ref ra, .ref ca, .ref ha, .int (nI kp), .ref ba, .int (nI hd), .ref wa])), (ba, .inl (kb, 256, .inl (aB (va_up (fil g bf i) i (g i))))), (ga, .inl (kg, 256, .inl (aB g)))] H := hP
            have hD : va_D A [(mo, .inr (8, [.int (nI th), .ref ra, .ref ca, .ref ha, .int (nI kp), .ref ba, .int (nI hd), .ref wa])), (ba, .inl (kb, 256, .inl (aB (va_up (fil g bf i) i (g i))))), (ga, .inl (kg, 256, .inl (aB g)))] := hD
            refine lv_iinc (v := (nI (i + 1))) (lv' := [(3, .int (nI (i + 1))), (2, .int (nI ((cm bf g i) + 0))), (0, .ref mo), (1, .ref ga)]) hx hb dX6_becomes__43 hl (k := 3) rfl (z_inc i 1) (by decide) rfl (fun ls hl => ?_)
            refine lv_goto (tgt := 4) hx hb dX6_becomes__46 (by decide) ?_
            have hl : lv_has ls 4 [(3, .int (nI (i + 1))), (2, .int (nI (cm bf g (i + 1)))), (0, .ref mo), (1, .ref ga)] := Eq.mp (congrArg (fun z9 => lv_has ls 4 [(3, .int (nI (i + 1))), (2, .int z9), (0, .ref mo), (1, .ref ga)]) (congrArg nI (show ((cm bf g i) + 0) = cm bf g (i + 1) from e9))) hl
            have hP : va_P D vwCl [(mo, .inr (8, [.int (nI th), .ref ra, .ref ca, .ref ha, .int (nI kp), .ref ba, .int (nI hd), .ref wa])), (ba, .inl (kb, 256, .inl (aB (fil g bf (i + 1))))), (ga, .inl (kg, 256, .inl (aB g)))] H := Eq.mp (congrArg (fun z9 => va_P D vwCl [(mo, .inr (8, [.int (nI th), .ref ra, .ref ca, .ref ha, .int (nI kp), .ref ba, .int (nI hd), .ref wa])), (ba, .inl (kb, 256, .inl (aB z9))), (ga, .inl (kg, 256, .inl (aB g)))] H) ((show va_up (fil g bf i) i (g i) = fil g bf (i + 1) from fil_s _ _ _))) hP
            have hD : va_D A [(mo, .inr (8, [.int (nI th), .ref ra, .ref ca, .ref ha, .int (nI kp), .ref ba, .int (nI hd), .ref wa])), (ba, .inl (kb, 256, .inl (aB (fil g bf (i + 1))))), (ga, .inl (kg, 256, .inl (aB g)))] := Eq.mp (congrArg (fun z9 => va_D A [(mo, .inr (8, [.int (nI th), .ref ra, .ref ca, .ref ha, .int (nI kp), .ref ba, .int (nI hd), .ref wa])), (ba, .inl (kb, 256, .inl (aB z9))), (ga, .inl (kg, 256, .inl (aB g)))]) ((show va_up (fil g bf i) i (g i) = fil g bf (i + 1) from fil_s _ _ _))) hD
            exact ih_4 (i + 1) (by omega) (by omega) H locs hP hD hS ls (lv_sub hl [2, 3, 1, 0] rfl)
          · have e9 : cm bf g i + 1 = cm bf g (i + 1) := by rw [hfi] at c_24; rw [cm, c_15, c_24]; rfl
            refine lv_iconst (v := nI 1) hx hb dX6_becomes__27 zki_1 ?_
            refine lv_goto (tgt := 32) hx hb dX6_becomes__28 (by decide) ?_
            refine z_add hx hb dX6_becomes__32 ?_
            refine lv_istore_n (lv' := [(2, .int (nI ((cm bf g i) + 1))), (0, .ref mo), (1, .ref ga), (3, .int (nI i))]) hx hb dX6_becomes__33 rfl hl (by decide) rfl (fun ls hl => ?_)
            refine lv_aload_n hx hb dX6_becomes__34 rfl (lv_at hl 1 rfl) ?_
            refine va_get (D := D) (ci := 8) (v := .ref ba) (C := RX6) (T := TX6) (N := 8) hx hb hts nX6_becomes__inX6 hown hK hP 0 rfl rfl 5 (by decide) (hts (.fieldLink RX6 19 "GamefieldModel" "basket" "[Z") (by decide +kernel)) (fun _ h9 => h9) rfl dX6_becomes__35 ?_
            refine lv_iload_n hx hb dX6_becomes__38 rfl (lv_at hl 3 rfl) ?_
            refine lv_aload_n hx hb dX6_becomes__39 rfl (lv_at hl 2 rfl) ?_
            refine lv_iload_n hx hb dX6_becomes__40 rfl (lv_at hl 3 rfl) ?_
            refine z_zald hx hb hK hP 2 1 rfl rfl (by omega) (by decide) dX6_becomes__41 ?_
            refine z_zast hx hb hK hP hD hS 1 0 rfl rfl (by omega) (by decide) dX6_becomes__42 (fun H locs hP hD hS => ?_)
            have hP : va_P D vwCl [(mo, .inr (8, [.int (nI th), .ref ra, .ref ca, .ref ha, .int (nI kp), .ref ba, .int (nI hd), .ref wa])), (ba, .inl (kb, 256, .inl (aB (va_up (fil g bf i) i (g i))))), (ga, .inl (kg, 256, .inl (aB g)))] H := hP
            have hD : va_D A [(mo, .inr (8, [.int (nI th), .ref ra, .ref ca, .ref ha, .int (nI kp), .ref ba, .int (nI hd), .ref wa])), (ba, .inl (kb, 256, .inl (aB (va_up (fil g bf i) i (g i))))), (ga, .inl (kg, 256, .inl (aB g)))] := hD
            refine lv_iinc (v := (nI (i + 1))) (lv' := [(3, .int (nI (i + 1))), (2, .int (nI ((cm bf g i) + 1))), (0, .ref mo), (1, .ref ga)]) hx hb dX6_becomes__43 hl (k := 3) rfl (z_inc i 1) (by decide) rfl (fun ls hl => ?_)
            refine lv_goto (tgt := 4) hx hb dX6_becomes__46 (by decide) ?_
            have hl : lv_has ls 4 [(3, .int (nI (i + 1))), (2, .int (nI (cm bf g (i + 1)))), (0, .ref mo), (1, .ref ga)] := Eq.mp (congrArg (fun z9 => lv_has ls 4 [(3, .int (nI (i + 1))), (2, .int z9), (0, .ref mo), (1, .ref ga)]) (congrArg nI (show ((cm bf g i) + 1) = cm bf g (i + 1) from e9))) hl
            have hP : va_P D vwCl [(mo, .inr (8, [.int (nI th), .ref ra, .ref ca, .ref ha, .int (nI kp), .ref ba, .int (nI hd), .ref wa])), (ba, .inl (kb, 256, .inl (aB (fil g bf (i + 1))))), (ga, .inl (kg, 256, .inl (aB g)))] H := Eq.mp (congrArg (fun z9 => va_P D vwCl [(mo, .inr (8, [.int (nI th), .ref ra, .ref ca, .ref ha, .int (nI kp), .ref ba, .int (nI hd), .ref wa])), (ba, .inl (kb, 256, .inl (aB z9))), (ga, .inl (kg, 256, .inl (aB g)))] H) ((show va_up (fil g bf i) i (g i) = fil g bf (i + 1) from fil_s _ _ _))) hP
            have hD : va_D A [(mo, .inr (8, [.int (nI th), .ref ra, .ref ca, .ref ha, .int (nI kp), .ref ba, .int (nI hd), .ref wa])), (ba, .inl (kb, 256, .inl (aB (fil g bf (i + 1))))), (ga, .inl (kg, 256, .inl (aB g)))] := Eq.mp (congrArg (fun z9 => va_D A [(mo, .inr (8, [.int (nI th), .ref ra, .ref ca, .ref ha, .int (nI kp), .ref ba, .int (nI hd), .ref wa])), (ba, .inl (kb, 256, .inl (aB z9))), (ga, .inl (kg, 256, .inl (aB g)))]) ((show va_up (fil g bf i) i (g i) = fil g bf (i + 1) from fil_s _ _ _))) hD
            exact ih_4 (i + 1) (by omega) (by omega) H locs hP hD hS ls (lv_sub hl [2, 3, 1, 0] rfl)
  have hl : lv_has ls 4 [(3, .int (nI 0)), (2, .int (nI (cm bf g 0))), (0, .ref mo), (1, .ref ga)] := Eq.mp (congrArg (fun z9 => lv_has ls 4 [(3, .int (nI 0)), (2, .int z9), (0, .ref mo), (1, .ref ga)]) (congrArg nI (show 0 = cm bf g 0 from rfl))) hl
  have hP : va_P D vwCl [(mo, .inr (8, [.int (nI th), .ref ra, .ref ca, .ref ha, .int (nI kp), .ref ba, .int (nI hd), .ref wa])), (ba, .inl (kb, 256, .inl (aB (fil g bf 0)))), (ga, .inl (kg, 256, .inl (aB g)))] s.heap := Eq.mp (congrArg (fun z9 => va_P D vwCl [(mo, .inr (8, [.int (nI th), .ref ra, .ref ca, .ref ha, .int (nI kp), .ref ba, .int (nI hd), .ref wa])), (ba, .inl (kb, 256, .inl (aB z9))), (ga, .inl (kg, 256, .inl (aB g)))] s.heap) ((show bf = fil g bf 0 from (fil_0 _ _).symm))) hP
  have hD : va_D A [(mo, .inr (8, [.int (nI th), .ref ra, .ref ca, .ref ha, .int (nI kp), .ref ba, .int (nI hd), .ref wa])), (ba, .inl (kb, 256, .inl (aB (fil g bf 0)))), (ga, .inl (kg, 256, .inl (aB g)))] := Eq.mp (congrArg (fun z9 => va_D A [(mo, .inr (8, [.int (nI th), .ref ra, .ref ca, .ref ha, .int (nI kp), .ref ba, .int (nI hd), .ref wa])), (ba, .inl (kb, 256, .inl (aB z9))), (ga, .inl (kg, 256, .inl (aB g)))]) ((show bf = fil g bf 0 from (fil_0 _ _).symm))) hD
  exact cut_4 ((256 - 0) + 1) 0 (by omega) (Nat.lt_succ_self _) _ _ hP hD hS ls (lv_sub hl [2, 3, 1, 0] rfl)
abbrev rm_c_X6_shift_ok : Room := { frames := 1, cells := 1, slots := 256, locals := 25 }
abbrev q_c_X6_shift_ok (D : va_G) (sz : Nat) (mo : Nat) (ra : Nat) (ca : Nat) (ha : Nat) (ba : Nat) (wa : Nat) (kp : Nat) (hd : Nat) (kb : ClassId) (th : Nat) (bf : Nat → Bool) (j : Nat) : Array Value → State → Outcome → State → Prop := va_Qi (fun r (_ : Unit) => r = (nI (cm bf (shk bf j 256) 256))) (fun (_ : Unit) t => va_P D vwCl [(mo, .inr (8, [.int (nI 0), .ref ra, .ref ca, .ref ha, .int (nI kp), .ref ba, .int (nI hd), .ref wa])), (ba, .inl (kb, 256, .inl (aB (shk bf j 256))))] t.heap ∧ va_K D vwCl [(kb, .boolean)] t ∧ va_D (va_A [(mo, .inr (8, [.int (nI th), .ref ra, .ref ca, .ref ha, .int (nI kp), .ref ba, .int (nI hd), .ref wa])), (ba, .inl (kb, 256, .inl (aB bf)))] sz) [(mo, .inr (8, [.int (nI 0), .ref ra, .ref ca, .ref ha, .int (nI kp), .ref ba, .int (nI hd), .ref wa])), (ba, .inl (kb, 256, .inl (aB (shk bf j 256))))]) (va_A [(mo, .inr (8, [.int (nI th), .ref ra, .ref ca, .ref ha, .int (nI kp), .ref ba, .int (nI hd), .ref wa])), (ba, .inl (kb, 256, .inl (aB bf)))] sz)
set_option maxHeartbeats 4000000 in
set_option maxRecDepth 100000 in
theorem c_X6_shift_ok (l : Launch) (D : va_G) (sz : Nat) (mo : Nat) (ra : Nat) (ca : Nat) (ha : Nat) (ba : Nat) (wa : Nat) (kp : Nat) (hd : Nat) (kb : ClassId) (th : Nat) (bf : Nat → Bool) (j : Nat) (hj : j < 256) : Met l yX6_shift wsX6_shift rm_c_X6_shift_ok (va_Pc [.ref mo, .int (nI j)] (fun U => U.heap.size = sz ∧ va_P D vwCl [(mo, .inr (8, [.int (nI th), .ref ra, .ref ca, .ref ha, .int (nI kp), .ref ba, .int (nI hd), .ref wa])), (ba, .inl (kb, 256, .inl (aB bf)))] U.heap ∧ va_K D vwCl [(kb, .boolean)] U ∧ va_D (fun _ => True) [(mo, .inr (8, [.int (nI th), .ref ra, .ref ca, .ref ha, .int (nI kp), .ref ba, .int (nI hd), .ref wa])), (ba, .inl (kb, 256, .inl (aB bf)))])) (q_c_X6_shift_ok D sz mo ra ca ha ba wa kp hd kb th bf j) 1 256 (va_A [(mo, .inr (8, [.int (nI th), .ref ra, .ref ca, .ref ha, .int (nI kp), .ref ba, .int (nI hd), .ref wa])), (ba, .inl (kb, 256, .inl (aB bf)))] sz) := by
  refine Met.ofW (cc := cX6_shift) (maxL := 4) (ret := (some .int)) (by decide) rfl ?_
  intro p e s m args below meth c s₁ B hml hv
  obtain ⟨hargs, hsz, hP, hK, hD0⟩ := hv
  have hx := B.exec
  have hb := B.bytes
  have hr := B.returns
  have hts := atoms_spec (ws := wsX6_shift) B.pre
  have hown : s.vm.findClass RX6 = some m.cls := findClass_of_methodNamed B.named
  have hlocks := B.notSynchronized
  subst hsz
  have hD := hD0.self (sz := s.heap.size)
  generalize hAe : va_A [(mo, .inr (8, [.int (nI th), .ref ra, .ref ca, .ref ha, .int (nI kp), .ref ba, .int (nI hd), .ref wa])), (ba, .inl (kb, 256, .inl (aB bf)))] s.heap.size = A at hD ⊢
  have hA : ∀ q : Nat, s.heap.size ≤ q → A q := fun q h => by rw [← hAe]; exact Or.inr h
  have hS : va_S A s.heap s.heap [] := va_S.rf
  have hl := lv_entry ([.ref mo, .int (nI j)]) (n := 4) (Nat.le_of_ble_eq_true rfl)
  refine W.eq (g2 := F0 m 0 (lg_sl ([.ref mo, .int (nI j)]) ++ List.replicate (4 - (lg_sl ([.ref mo, .int (nI j)])).length) Slot.unset).toArray []) (by rw [hargs]; exact lg_entry_eq _ _ _) ?_
  generalize (lg_sl ([.ref mo, .int (nI j)]) ++ List.replicate (4 - (lg_sl ([.ref mo, .int (nI j)])).length) Slot.unset).toArray = ls at hl ⊢
  have hl : lv_has ls 4 [(0, .ref mo), (1, .int (nI j))] := hl
  refine lv_aload_n hx hb dX6_shift_0 rfl (lv_at hl 0 rfl) ?_
  refine lv_iconst (v := nI 0) hx hb dX6_shift_1 zki_0 ?_
  refine va_put (D := D) (ci := 8) (v := .int (nI 0)) (ty := .int) (C := RX6) (T := TX6) (N := 8) hx hb hts nX6_shift_inX6 tyX6 tyX6_ok nmX6 hown hK hP hD hS 0 rfl rfl 0 (by decide) (hts (.fieldLink RX6 26 "GamefieldModel" "thrown" "I") (by decide +kernel)) (fun _ h9 => h9) rfl (by decide +kernel) rfl rfl (Nat.le_of_ble_eq_true rfl) dX6_shift_2 (fun H locs hP hD hS => ?_)
  have hP : va_P D vwCl [(mo, .inr (8, [.int (nI 0), .ref ra, .ref ca, .ref ha, .int (nI kp), .ref ba, .int (nI hd), .ref wa])), (ba, .inl (kb, 256, .inl (aB bf)))] H := hP
  have hD : va_D A [(mo, .inr (8, [.int (nI 0), .ref ra, .ref ca, .ref ha, .int (nI kp), .ref ba, .int (nI hd), .ref wa])), (ba, .inl (kb, 256, .inl (aB bf)))] := hD
  refine lv_aload_n hx hb dX6_shift_5 rfl (lv_at hl 0 rfl) ?_
  refine lv_iload_n hx hb dX6_shift_6 rfl (lv_at hl 1 rfl) ?_
  refine lv_sipush (v := nI 256) hx hb dX6_shift_7 zks_256 ?_
  refine z_ci (va_runS (As := [.int (nI j), .int (nI 256)]) (rest := [.ref mo]) ⟨hx, hb, hml, hown, hts⟩ (c_X6_isNumber_ok l D j 256 (by omega) (by omega)) (va_cwS 2 hts gX6_shift_X6_isNumber rfl rfl rfl (by decide +kernel) ⟨Nat.le_of_ble_eq_true rfl, Nat.le_of_ble_eq_true rfl⟩) ⟨z_fb0, fun U hU hW => ⟨rfl, trivial⟩⟩ rfl rfl hl.1 rfl (lv_room (Nat.le_of_ble_eq_true rfl)) dX6_shift_10 ⟨Nat.le_of_ble_eq_true rfl, Nat.le_of_ble_eq_true rfl⟩) (fun r10 e10 => ?_)
  subst e10
  refine z_bne (tgt := 20) hx hb dX6_shift_13 (by decide) (fun c_13 => ?_) (fun c_13 => absurd c_13 (by decide))
  refine lv_iconst (v := nI 0) hx hb dX6_shift_20 zki_0 ?_
  refine lv_iconst (v := nI 1) hx hb dX6_shift_21 zki_1 ?_
  have hPc := hP.sub (ws' := [(mo, .inr (8, [.int (nI 0), .ref ra, .ref ca, .ref ha, .int (nI kp), .ref ba, .int (nI hd), .ref wa]))]) [0] rfl
  have hDc := hD.sub (ws' := [(mo, .inr (8, [.int (nI 0), .ref ra, .ref ca, .ref ha, .int (nI kp), .ref ba, .int (nI hd), .ref wa]))]) [0] (by decide) rfl
  have hKc := hK.sub (tys' := []) [] rfl
  have hFc := va_free (wc := [(mo, .inr (8, [.int (nI 0), .ref ra, .ref ca, .ref ha, .int (nI kp), .ref ba, .int (nI hd), .ref wa]))]) hD hS hA [0] rfl
  refine va_calli (va_runV (As := [.int (nI 0), .int (nI 1)]) (rest := []) ⟨hx, hb, hml, hown, hts⟩ (c_X6_fails_false l D H.size mo ra ca ha ba wa kp hd 1 (by omega) (by omega)) (cwV 2 hts gX6_shift_X6_fails rfl rfl rfl (by decide +kernel) ⟨Nat.le_of_ble_eq_true rfl, Nat.le_of_ble_eq_true rfl⟩) ⟨(z_fb2), va_recv hK hP (ci := 8) (q0 := 0) rfl rfl, fun U hU hW => ⟨rfl, by rw [hU], by rw [hU]; exact hPc, va_K.moved hW.alike hKc, hDc.weaken (fun _ _ _ _ => trivial)⟩⟩ rfl rfl hl.1 rfl (lv_room (Nat.le_of_ble_eq_true rfl)) dX6_shift_22 ⟨Nat.le_of_ble_eq_true rfl, Nat.le_of_ble_eq_true rfl⟩) hS (fun q _ h => hFc q h) hFc (fun r22 u22 t H locs ht hvm e22 hB hz1 hk1 hS => ?_)
  obtain ⟨hP1, hK1, hD1⟩ := hB
  rw [ht] at hP1
  obtain ⟨hP, hD⟩ := va_join (wr := [(ba, .inl (kb, 256, .inl (aB bf)))]) (w1 := [(mo, .inr (8, [.int (nI 0), .ref ra, .ref ca, .ref ha, .int (nI kp), .ref ba, .int (nI hd), .ref wa]))]) hP hD [0] [1] rfl rfl (by decide) (by decide) hk1 hFc hP1 hD1
  have hP : va_P D vwCl [(ba, .inl (kb, 256, .inl (aB bf))), (mo, .inr (8, [.int (nI 0), .ref ra, .ref ca, .ref ha, .int (nI kp), .ref ba, .int (nI hd), .ref wa]))] H := hP
  have hD : va_D A [(ba, .inl (kb, 256, .inl (aB bf))), (mo, .inr (8, [.int (nI 0), .ref ra, .ref ca, .ref ha, .int (nI kp), .ref ba, .int (nI hd), .ref wa]))] := hD
  refine W.widen (k := 0) (n := 0) (Nat.le_of_ble_eq_true rfl) (Nat.le_of_ble_eq_true rfl) ?_
  subst e22
  refine z_beq (tgt := 30) hx hb dX6_shift_25 (by decide) (fun c_25 => ?_) (fun c_25 => absurd c_25 (by decide))
  refine lv_sipush (v := nI 256) hx hb dX6_shift_30 zks_256 ?_
  refine va_newa (atype := .boolean) (N' := 256) (a0 := (256, .inl (aB (fun _ => false)))) hx hb (hts (.arrayClass .boolean) (by decide +kernel)) rfl hK hP hD hS hA (fun _ => rfl) (z_npos (by decide)) (nI_clamp (by decide)) (by decide) (Nat.le_of_ble_eq_true rfl) (Nat.le_of_ble_eq_true rfl) dX6_shift_33 (fun q33 cA33 H hK hP hD hS => ?_)
  have hK : va_K D vwCl [(kb, .boolean), (cA33, .boolean)] s := hK
  have hP : va_P D vwCl [(ba, .inl (kb, 256, .inl (aB bf))), (mo, .inr (8, [.int (nI 0), .ref ra, .ref ca, .ref ha, .int (nI kp), .ref ba, .int (nI hd), .ref wa])), (q33, .inl (cA33, 256, .inl (aB (fun _ => false))))] H := hP
  have hD : va_D A [(ba, .inl (kb, 256, .inl (aB bf))), (mo, .inr (8, [.int (nI 0), .ref ra, .ref ca, .ref ha, .int (nI kp), .ref ba, .int (nI hd), .ref wa])), (q33, .inl (cA33, 256, .inl (aB (fun _ => false))))] := hD
  refine W.widen (k := 1) (n := 256) (Nat.le_of_ble_eq_true rfl) (Nat.le_of_ble_eq_true rfl) ?_
  refine lv_astore_n (lv' := [(2, .ref q33), (0, .ref mo), (1, .int (nI j))]) hx hb dX6_shift_35 rfl hl (by decide) rfl (fun ls hl => ?_)
  refine lv_iconst (v := nI 0) hx hb dX6_shift_36 zki_0 ?_
  refine lv_istore_n (lv' := [(3, .int (nI 0)), (2, .ref q33), (0, .ref mo), (1, .int (nI j))]) hx hb dX6_shift_37 rfl hl (by decide) rfl (fun ls hl => ?_)
  have cut_38 : ∀ (nn9 : Nat) (i : Nat) (hi : i ≤ 256) (hn9 : 256 - i < nn9) (H : Heap) (locs : List Loc) (hP : va_P D vwCl [(mo, .inr (8, [.int (nI 0), .ref ra, .ref ca, .ref ha, .int (nI kp), .ref ba, .int (nI hd), .ref wa])), (ba, .inl (kb, 256, .inl (aB bf))), (q33, .inl (cA33, 256, .inl (aB (shk bf j i))))] H) (hD : va_D A [(mo, .inr (8, [.int (nI 0), .ref ra, .ref ca, .ref ha, .int (nI kp), .ref ba, .int (nI hd), .ref wa])), (ba, .inl (kb, 256, .inl (aB bf))), (q33, .inl (cA33, 256, .inl (aB (shk bf j i))))]) (hS : va_S A s.heap H locs) (ls : Array Slot) (hl : lv_has ls 4 [(0, .ref mo), (1, .int (nI j)), (2, .ref q33), (3, .int (nI i))]), W p l e (headSpec wsX6_shift rm_c_X6_shift_ok).room s m args below meth c H locs 1 256 (MQ below (q_c_X6_shift_ok D s.heap.size mo ra ca ha ba wa kp hd kb th bf j) args s 1 256 A) (F0 m 38 ls []) := by
    intro nn9
    induction nn9 with
    | zero => intro i hi hn9; exact absurd hn9 (Nat.not_lt_zero _)
    | succ nn9 ih_38 =>
      intro i hi hn9 H locs hP hD hS ls hl
      refine lv_iload_n hx hb dX6_shift_38 rfl (lv_at hl 3 rfl) ?_
      refine lv_sipush (v := nI 256) hx hb dX6_shift_39 zks_256 ?_
      refine z_cge (tgt := 68) hx hb (by omega) (by omega) dX6_shift_42 (by decide) (fun c_42 => ?_) (fun c_42 => ?_)
      · have hi9 : i = 256 := by omega
        refine lv_aload_n hx hb dX6_shift_68 rfl (lv_at hl 0 rfl) ?_
        refine lv_aload_n hx hb dX6_shift_69 rfl (lv_at hl 2 rfl) ?_
        have hPc := hP.sub (ws' := [(mo, .inr (8, [.int (nI 0), .ref ra, .ref ca, .ref ha, .int (nI kp), .ref ba, .int (nI hd), .ref wa])), (ba, .inl (kb, 256, .inl (aB bf))), (q33, .inl (cA33, 256, .inl (aB (shk bf j i))))]) [0, 1, 2] rfl
        have hDc := hD.sub (ws' := [(mo, .inr (8, [.int (nI 0), .ref ra, .ref ca, .ref ha, .int (nI kp), .ref ba, .int (nI hd), .ref wa])), (ba, .inl (kb, 256, .inl (aB bf))), (q33, .inl (cA33, 256, .inl (aB (shk bf j i))))]) [0, 1, 2] (by decide) rfl
        have hKc := hK.sub (tys' := [(kb, .boolean), (cA33, .boolean)]) [0, 1] rfl
        have hFc := va_free (wc := [(mo, .inr (8, [.int (nI 0), .ref ra, .ref ca, .ref ha, .int (nI kp), .ref ba, .int (nI hd), .ref wa])), (ba, .inl (kb, 256, .inl (aB bf))), (q33, .inl (cA33, 256, .inl (aB (shk bf j i))))]) hD hS hA [0, 1, 2] rfl
        refine va_calli (va_runV (As := [.ref q33]) (rest := []) ⟨hx, hb, hml, hown, hts⟩ (c_X6_becomes_ l D H.size mo ra ca ha ba wa kp hd kb 0 bf q33 cA33 (shk bf j i) ) (cwV 1 hts gX6_shift_X6_becomes_ rfl rfl rfl (by decide +kernel) ⟨Nat.le_of_ble_eq_true rfl, Nat.le_of_ble_eq_true rfl⟩) ⟨(z_fb2), va_recv hK hP (ci := 8) (q0 := 0) rfl rfl, fun U hU hW => ⟨rfl, by rw [hU], by rw [hU]; exact hPc, va_K.moved hW.alike hKc, hDc.weaken (fun _ _ _ _ => trivial)⟩⟩ rfl rfl hl.1 rfl (lv_room (Nat.le_of_ble_eq_true rfl)) dX6_shift_70 ⟨Nat.le_of_ble_eq_true rfl, Nat.le_of_ble_eq_true rfl⟩) hS (fun q _ h => hFc q h) hFc (fun r70 u70 t H locs ht hvm e70 hB hz1 hk1 hS => ?_)
        obtain ⟨hP1, hK1, hD1⟩ := hB
        rw [ht] at hP1
        obtain ⟨hP, hD⟩ := va_join (wr := []) (w1 := [(mo, .inr (8, [.int (nI 0), .ref ra, .ref ca, .ref ha, .int (nI kp), .ref ba, .int (nI hd), .ref wa])), (ba, .inl (kb, 256, .inl (aB (shk bf j i)))), (q33, .inl (cA33, 256, .inl (aB (shk bf j i))))]) hP hD [0, 1, 2] [] rfl rfl (by decide) (by decide) hk1 hFc hP1 hD1
        have hP : va_P D vwCl [(mo, .inr (8, [.int (nI 0), .ref ra, .ref ca, .ref ha, .int (nI kp), .ref ba, .int (nI hd), .ref wa])), (ba, .inl (kb, 256, .inl (aB (shk bf j i)))), (q33, .inl (cA33, 256, .inl (aB (shk bf j i))))] H := hP
        have hD : va_D A [(mo, .inr (8, [.int (nI 0), .ref ra, .ref ca, .ref ha, .int (nI kp), .ref ba, .int (nI hd), .ref wa])), (ba, .inl (kb, 256, .inl (aB (shk bf j i)))), (q33, .inl (cA33, 256, .inl (aB (shk bf j i))))] := hD
        refine W.widen (k := 1) (n := 256) (Nat.le_of_ble_eq_true rfl) (Nat.le_of_ble_eq_true rfl) ?_
        subst e70
        have hcm70 := cm_le bf (shk bf j i) 256
        have hP9 := hP.sub (ws' := [(mo, .inr (8, [.int (nI 0), .ref ra, .ref ca, .ref ha, .int (nI kp), .ref ba, .int (nI hd), .ref wa])), (ba, .inl (kb, 256, .inl (aB (shk bf j i))))]) [0, 1] rfl
        have hD9 := hD.sub (ws' := [(mo, .inr (8, [.int (nI 0), .ref ra, .ref ca, .ref ha, .int (nI kp), .ref ba, .int (nI hd), .ref wa])), (ba, .inl (kb, 256, .inl (aB (shk bf j i))))]) [0, 1] (by decide) rfl
        rw [hi9] at hP9 hD9
        have hK9 := hK.sub (tys' := [(kb, .boolean)]) [0] rfl
        subst hAe
        refine W.widen (k := 1) (n := 256) (Nat.le_of_ble_eq_true rfl) (Nat.le_of_ble_eq_true rfl) ?_
        exact W.iret hx hb hr (fun t ht hW => ⟨⟨_, (), rfl, (by rw [hi9]), by rw [ht]; exact hP9, va_K.moved hW.alike hK9, hD9⟩, hS.F ht⟩) hS.2.2 dX6_shift_73
      · refine lv_aload_n hx hb dX6_shift_45 rfl (lv_at hl 0 rfl) ?_
        refine va_get (D := D) (ci := 8) (v := .ref ba) (C := RX6) (T := TX6) (N := 8) hx hb hts nX6_shift_inX6 hown hK hP 0 rfl rfl 5 (by decide) (hts (.fieldLink RX6 19 "GamefieldModel" "basket" "[Z") (by decide +kernel)) (fun _ h9 => h9) rfl dX6_shift_46 ?_
        refine lv_iload_n hx hb dX6_shift_49 rfl (lv_at hl 3 rfl) ?_
        refine z_zald hx hb hK hP 1 0 rfl rfl (by omega) (by decide) dX6_shift_50 ?_
        refine z_beq (tgt := 62) hx hb dX6_shift_51 (by decide) (fun c_51 => ?_) (fun c_51 => ?_)
        · have e9 : shk bf j i = shk bf j (i + 1) := by rw [shk, c_51]; rfl
          refine lv_iinc (v := (nI (i + 1))) (lv' := [(3, .int (nI (i + 1))), (0, .ref mo), (1, .int (nI j)), (2, .ref q33)]) hx hb dX6_shift_62 hl (k := 3) rfl (z_inc i 1) (by decide) rfl (fun ls hl => ?_)
          refine lv_goto (tgt := 38) hx hb dX6_shift_65 (by decide) ?_
          have hP : va_P D vwCl [(mo, .inr (8, [.int (nI 0), .ref ra, .ref ca, .ref ha, .int (nI kp), .ref ba, .int (nI hd), .ref wa])), (ba, .inl (kb, 256, .inl (aB bf))), (q33, .inl (cA33, 256, .inl (aB (shk bf j (i + 1)))))] H := Eq.mp (congrArg (fun z9 => va_P D vwCl [(mo, .inr (8, [.int (nI 0), .ref ra, .ref ca, .ref ha, .int (nI kp), .ref ba, .int (nI hd), .ref wa])), (ba, .inl (kb, 256, .inl (aB bf))), (q33, .inl (cA33, 256, .inl (aB z9)))] H) ((show shk bf j i = shk bf j (i + 1) from e9))) hP
          have hD : va_D A [(mo, .inr (8, [.int (nI 0), .ref ra, .ref ca, .ref ha, .int (nI kp), .ref ba, .int (nI hd), .ref wa])), (ba, .inl (kb, 256, .inl (aB bf))), (q33, .inl (cA33, 256, .inl (aB (shk bf j (i + 1)))))] := Eq.mp (congrArg (fun z9 => va_D A [(mo, .inr (8, [.int (nI 0), .ref ra, .ref ca, .ref ha, .int (nI kp), .ref ba, .int (nI hd), .ref wa])), (ba, .inl (kb, 256, .inl (aB bf))), (q33, .inl (cA33, 256, .inl (aB z9)))]) ((show shk bf j i = shk bf j (i + 1) from e9))) hD
          exact ih_38 (i + 1) (by omega) (by omega) H locs hP hD hS ls (lv_sub hl [1, 2, 3, 0] rfl)
        · have e9 : va_up (shk bf j i) (i ^^^ j) true = shk bf j (i + 1) := by rw [shk, if_pos c_51]
          refine lv_aload_n hx hb dX6_shift_54 rfl (lv_at hl 2 rfl) ?_
          refine lv_iload_n hx hb dX6_shift_55 rfl (lv_at hl 3 rfl) ?_
          refine lv_iload_n hx hb dX6_shift_56 rfl (lv_at hl 1 rfl) ?_
          refine z_ci (va_runS (As := [.int (nI i), .int (nI j)]) (rest := [.ref q33]) ⟨hx, hb, hml, hown, hts⟩ (c_X6_sumOf l D i j (by omega) (by omega)) (va_cwS 2 hts gX6_shift_X6_sumOf rfl rfl rfl (by decide +kernel) ⟨Nat.le_of_ble_eq_true rfl, Nat.le_of_ble_eq_true rfl⟩) ⟨z_fb0, fun U hU hW => ⟨rfl, trivial⟩⟩ rfl rfl hl.1 rfl (lv_room (Nat.le_of_ble_eq_true rfl)) dX6_shift_57 ⟨Nat.le_of_ble_eq_true rfl, Nat.le_of_ble_eq_true rfl⟩) (fun r57 e57 => ?_)
          subst e57
          have hx57 : i ^^^ j < 256 := zx8 (by omega) (by omega)
          refine lv_iconst (v := nI 1) hx hb dX6_shift_60 zki_1 ?_
          refine zt (show nI 1 = bI true from rfl) ?_
          refine z_zast hx hb hK hP hD hS 2 1 rfl rfl (by omega) (by decide) dX6_shift_61 (fun H locs hP hD hS => ?_)
          have hP : va_P D vwCl [(mo, .inr (8, [.int (nI 0), .ref ra, .ref ca, .ref ha, .int (nI kp), .ref ba, .int (nI hd), .ref wa])), (ba, .inl (kb, 256, .inl (aB bf))), (q33, .inl (cA33, 256, .inl (aB (va_up (shk bf j i) (i ^^^ j) true))))] H := hP
          have hD : va_D A [(mo, .inr (8, [.int (nI 0), .ref ra, .ref ca, .ref ha, .int (nI kp), .ref ba, .int (nI hd), .ref wa])), (ba, .inl (kb, 256, .inl (aB bf))), (q33, .inl (cA33, 256, .inl (aB (va_up (shk bf j i) (i ^^^ j) true))))] := hD
          refine lv_iinc (v := (nI (i + 1))) (lv' := [(3, .int (nI (i + 1))), (0, .ref mo), (1, .int (nI j)), (2, .ref q33)]) hx hb dX6_shift_62 hl (k := 3) rfl (z_inc i 1) (by decide) rfl (fun ls hl => ?_)
          refine lv_goto (tgt := 38) hx hb dX6_shift_65 (by decide) ?_
          have hP : va_P D vwCl [(mo, .inr (8, [.int (nI 0), .ref ra, .ref ca, .ref ha, .int (nI kp), .ref ba, .int (nI hd), .ref wa])), (ba, .inl (kb, 256, .inl (aB bf))), (q33, .inl (cA33, 256, .inl (aB (shk bf j (i + 1)))))] H := Eq.mp (congrArg (fun z9 => va_P D vwCl [(mo, .inr (8, [.int (nI 0), .ref ra, .ref ca, .ref ha, .int (nI kp), .ref ba, .int (nI hd), .ref wa])), (ba, .inl (kb, 256, .inl (aB bf))), (q33, .inl (cA33, 256, .inl (aB z9)))] H) ((show va_up (shk bf j i) (i ^^^ j) true = shk bf j (i + 1) from e9))) hP
          have hD : va_D A [(mo, .inr (8, [.int (nI 0), .ref ra, .ref ca, .ref ha, .int (nI kp), .ref ba, .int (nI hd), .ref wa])), (ba, .inl (kb, 256, .inl (aB bf))), (q33, .inl (cA33, 256, .inl (aB (shk bf j (i + 1)))))] := Eq.mp (congrArg (fun z9 => va_D A [(mo, .inr (8, [.int (nI 0), .ref ra, .ref ca, .ref ha, .int (nI kp), .ref ba, .int (nI hd), .ref wa])), (ba, .inl (kb, 256, .inl (aB bf))), (q33, .inl (cA33, 256, .inl (aB z9)))]) ((show va_up (shk bf j i) (i ^^^ j) true = shk bf j (i + 1) from e9))) hD
          exact ih_38 (i + 1) (by omega) (by omega) H locs hP hD hS ls (lv_sub hl [1, 2, 3, 0] rfl)
  have hP : va_P D vwCl [(ba, .inl (kb, 256, .inl (aB bf))), (mo, .inr (8, [.int (nI 0), .ref ra, .ref ca, .ref ha, .int (nI kp), .ref ba, .int (nI hd), .ref wa])), (q33, .inl (cA33, 256, .inl (aB (shk bf j 0))))] H := Eq.mp (congrArg (fun z9 => va_P D vwCl [(ba, .inl (kb, 256, .inl (aB bf))), (mo, .inr (8, [.int (nI 0), .ref ra, .ref ca, .ref ha, .int (nI kp), .ref ba, .int (nI hd), .ref wa])), (q33, .inl (cA33, 256, .inl (aB z9)))] H) ((show (fun _ => false) = shk bf j 0 from rfl))) hP
  have hD : va_D A [(ba, .inl (kb, 256, .inl (aB bf))), (mo, .inr (8, [.int (nI 0), .ref ra, .ref ca, .ref ha, .int (nI kp), .ref ba, .int (nI hd), .ref wa])), (q33, .inl (cA33, 256, .inl (aB (shk bf j 0))))] := Eq.mp (congrArg (fun z9 => va_D A [(ba, .inl (kb, 256, .inl (aB bf))), (mo, .inr (8, [.int (nI 0), .ref ra, .ref ca, .ref ha, .int (nI kp), .ref ba, .int (nI hd), .ref wa])), (q33, .inl (cA33, 256, .inl (aB z9)))]) ((show (fun _ => false) = shk bf j 0 from rfl))) hD
  exact cut_38 ((256 - 0) + 1) 0 (by omega) (Nat.lt_succ_self _) H locs (hP.sub [1, 0, 2] rfl) (hD.sub [1, 0, 2] (by decide) rfl) hS ls (lv_sub hl [2, 3, 1, 0] rfl)
abbrev rm_c_X6_shift_no : Room := { frames := 1, cells := 0, slots := 0, locals := 22 }
abbrev q_c_X6_shift_no (D : va_G) (sz : Nat) (mo : Nat) (ra : Nat) (ca : Nat) (ha : Nat) (ba : Nat) (wa : Nat) (kp : Nat) (hd : Nat) (kb : ClassId) (th : Nat) (bf : Nat → Bool) (x0 : Int32) : Array Value → State → Outcome → State → Prop := va_Qi (fun r (_ : Unit) => r = (nI 0)) (fun (_ : Unit) t => va_P D vwCl [(mo, .inr (8, [.int (nI 1), .ref ra, .ref ca, .ref ha, .int (nI kp), .ref ba, .int (nI hd), .ref wa])), (ba, .inl (kb, 256, .inl (aB bf)))] t.heap ∧ va_K D vwCl [(kb, .boolean)] t ∧ va_D (va_A [(mo, .inr (8, [.int (nI th), .ref ra, .ref ca, .ref ha, .int (nI kp), .ref ba, .int (nI hd), .ref wa])), (ba, .inl (kb, 256, .inl (aB bf)))] sz) [(mo, .inr (8, [.int (nI 1), .ref ra, .ref ca, .ref ha, .int (nI kp), .ref ba, .int (nI hd), .ref wa])), (ba, .inl (kb, 256, .inl (aB bf)))]) (va_A [(mo, .inr (8, [.int (nI th), .ref ra, .ref ca, .ref ha, .int (nI kp), .ref ba, .int (nI hd), .ref wa])), (ba, .inl (kb, 256, .inl (aB bf)))] sz)
set_option maxHeartbeats 4000000 in
set_option maxRecDepth 100000 in
theorem c_X6_shift_no (l : Launch) (D : va_G) (sz : Nat) (mo : Nat) (ra : Nat) (ca : Nat) (ha : Nat) (ba : Nat) (wa : Nat) (kp : Nat) (hd : Nat) (kb : ClassId) (th : Nat) (bf : Nat → Bool) (x0 : Int32) (hno : inN 256 x0 = false) : Met l yX6_shift wsX6_shift rm_c_X6_shift_no (va_Pc [.ref mo, .int x0] (fun U => U.heap.size = sz ∧ va_P D vwCl [(mo, .inr (8, [.int (nI th), .ref ra, .ref ca, .ref ha, .int (nI kp), .ref ba, .int (nI hd), .ref wa])), (ba, .inl (kb, 256, .inl (aB bf)))] U.heap ∧ va_K D vwCl [(kb, .boolean)] U ∧ va_D (fun _ => True) [(mo, .inr (8, [.int (nI th), .ref ra, .ref ca, .ref ha, .int (nI kp), .ref ba, .int (nI hd), .ref wa])), (ba, .inl (kb, 256, .inl (aB bf)))])) (q_c_X6_shift_no D sz mo ra ca ha ba wa kp hd kb th bf x0) 0 0 (va_A [(mo, .inr (8, [.int (nI th), .ref ra, .ref ca, .ref ha, .int (nI kp), .ref ba, .int (nI hd), .ref wa])), (ba, .inl (kb, 256, .inl (aB bf)))] sz) := by
  refine Met.ofW (cc := cX6_shift) (maxL := 4) (ret := (some .int)) (by decide) rfl ?_
  intro p e s m args below meth c s₁ B hml hv
  obtain ⟨hargs, hsz, hP, hK, hD0⟩ := hv
  have hx := B.exec
  have hb := B.bytes
  have hr := B.returns
  have hts := atoms_spec (ws := wsX6_shift) B.pre
  have hown : s.vm.findClass RX6 = some m.cls := findClass_of_methodNamed B.named
  have hlocks := B.notSynchronized
  subst hsz
  have hD := hD0.self (sz := s.heap.size)
  generalize hAe : va_A [(mo, .inr (8, [.int (nI th), .ref ra, .ref ca, .ref ha, .int (nI kp), .ref ba, .int (nI hd), .ref wa])), (ba, .inl (kb, 256, .inl (aB bf)))] s.heap.size = A at hD ⊢
  have hA : ∀ q : Nat, s.heap.size ≤ q → A q := fun q h => by rw [← hAe]; exact Or.inr h
  have hS : va_S A s.heap s.heap [] := va_S.rf
  have hl := lv_entry ([.ref mo, .int x0]) (n := 4) (Nat.le_of_ble_eq_true rfl)
  refine W.eq (g2 := F0 m 0 (lg_sl ([.ref mo, .int x0]) ++ List.replicate (4 - (lg_sl ([.ref mo, .int x0])).length) Slot.unset).toArray []) (by rw [hargs]; exact lg_entry_eq _ _ _) ?_
  generalize (lg_sl ([.ref mo, .int x0]) ++ List.replicate (4 - (lg_sl ([.ref mo, .int x0])).length) Slot.unset).toArray = ls at hl ⊢
  have hl : lv_has ls 4 [(0, .ref mo), (1, .int x0)] := hl
  refine lv_aload_n hx hb dX6_shift_0 rfl (lv_at hl 0 rfl) ?_
  refine lv_iconst (v := nI 0) hx hb dX6_shift_1 zki_0 ?_
  refine va_put (D := D) (ci := 8) (v := .int (nI 0)) (ty := .int) (C := RX6) (T := TX6) (N := 8) hx hb hts nX6_shift_inX6 tyX6 tyX6_ok nmX6 hown hK hP hD hS 0 rfl rfl 0 (by decide) (hts (.fieldLink RX6 26 "GamefieldModel" "thrown" "I") (by decide +kernel)) (fun _ h9 => h9) rfl (by decide +kernel) rfl rfl (Nat.le_of_ble_eq_true rfl) dX6_shift_2 (fun H locs hP hD hS => ?_)
  have hP : va_P D vwCl [(mo, .inr (8, [.int (nI 0), .ref ra, .ref ca, .ref ha, .int (nI kp), .ref ba, .int (nI hd), .ref wa])), (ba, .inl (kb, 256, .inl (aB bf)))] H := hP
  have hD : va_D A [(mo, .inr (8, [.int (nI 0), .ref ra, .ref ca, .ref ha, .int (nI kp), .ref ba, .int (nI hd), .ref wa])), (ba, .inl (kb, 256, .inl (aB bf)))] := hD
  refine lv_aload_n hx hb dX6_shift_5 rfl (lv_at hl 0 rfl) ?_
  refine lv_iload_n hx hb dX6_shift_6 rfl (lv_at hl 1 rfl) ?_
  refine lv_sipush (v := nI 256) hx hb dX6_shift_7 zks_256 ?_
  refine z_ci (va_runS (As := [.int x0, .int (nI 256)]) (rest := [.ref mo]) ⟨hx, hb, hml, hown, hts⟩ (c_X6_isNumber l D x0 256 (by omega)) (va_cwS 2 hts gX6_shift_X6_isNumber rfl rfl rfl (by decide +kernel) ⟨Nat.le_of_ble_eq_true rfl, Nat.le_of_ble_eq_true rfl⟩) ⟨z_fb0, fun U hU hW => ⟨rfl, trivial⟩⟩ rfl rfl hl.1 rfl (lv_room (Nat.le_of_ble_eq_true rfl)) dX6_shift_10 ⟨Nat.le_of_ble_eq_true rfl, Nat.le_of_ble_eq_true rfl⟩) (fun r10 e10 => ?_)
  subst e10
  refine z_bne (tgt := 20) hx hb dX6_shift_13 (by decide) (fun c_13 => absurd (hno.symm.trans c_13) (by decide)) (fun c_13 => ?_)
  refine lv_iconst (v := nI 1) hx hb dX6_shift_16 zki_1 ?_
  refine lv_goto (tgt := 21) hx hb dX6_shift_17 (by decide) ?_
  refine lv_iconst (v := nI 1) hx hb dX6_shift_21 zki_1 ?_
  have hPc := hP.sub (ws' := [(mo, .inr (8, [.int (nI 0), .ref ra, .ref ca, .ref ha, .int (nI kp), .ref ba, .int (nI hd), .ref wa]))]) [0] rfl
  have hDc := hD.sub (ws' := [(mo, .inr (8, [.int (nI 0), .ref ra, .ref ca, .ref ha, .int (nI kp), .ref ba, .int (nI hd), .ref wa]))]) [0] (by decide) rfl
  have hKc := hK.sub (tys' := []) [] rfl
  have hFc := va_free (wc := [(mo, .inr (8, [.int (nI 0), .ref ra, .ref ca, .ref ha, .int (nI kp), .ref ba, .int (nI hd), .ref wa]))]) hD hS hA [0] rfl
  refine va_calli (va_runV (As := [.int (nI 1), .int (nI 1)]) (rest := []) ⟨hx, hb, hml, hown, hts⟩ (c_X6_fails_true l D H.size mo ra ca ha ba wa kp hd 1 (by omega) (by omega)) (cwV 2 hts gX6_shift_X6_fails rfl rfl rfl (by decide +kernel) ⟨Nat.le_of_ble_eq_true rfl, Nat.le_of_ble_eq_true rfl⟩) ⟨(z_fb2), va_recv hK hP (ci := 8) (q0 := 0) rfl rfl, fun U hU hW => ⟨rfl, by rw [hU], by rw [hU]; exact hPc, va_K.moved hW.alike hKc, hDc.weaken (fun _ _ _ _ => trivial)⟩⟩ rfl rfl hl.1 rfl (lv_room (Nat.le_of_ble_eq_true rfl)) dX6_shift_22 ⟨Nat.le_of_ble_eq_true rfl, Nat.le_of_ble_eq_true rfl⟩) hS (fun q _ h => hFc q h) hFc (fun r22 u22 t H locs ht hvm e22 hB hz1 hk1 hS => ?_)
  obtain ⟨hP1, hK1, hD1⟩ := hB
  rw [ht] at hP1
  obtain ⟨hP, hD⟩ := va_join (wr := [(ba, .inl (kb, 256, .inl (aB bf)))]) (w1 := [(mo, .inr (8, [.int (nI 1), .ref ra, .ref ca, .ref ha, .int (nI kp), .ref ba, .int (nI hd), .ref wa]))]) hP hD [0] [1] rfl rfl (by decide) (by decide) hk1 hFc hP1 hD1
  have hP : va_P D vwCl [(ba, .inl (kb, 256, .inl (aB bf))), (mo, .inr (8, [.int (nI 1), .ref ra, .ref ca, .ref ha, .int (nI kp), .ref ba, .int (nI hd), .ref wa]))] H := hP
  have hD : va_D A [(ba, .inl (kb, 256, .inl (aB bf))), (mo, .inr (8, [.int (nI 1), .ref ra, .ref ca, .ref ha, .int (nI kp), .ref ba, .int (nI hd), .ref wa]))] := hD
  refine W.widen (k := 0) (n := 0) (Nat.le_of_ble_eq_true rfl) (Nat.le_of_ble_eq_true rfl) ?_
  subst e22
  refine z_beq (tgt := 30) hx hb dX6_shift_25 (by decide) (fun c_25 => absurd c_25 (by decide)) (fun c_25 => ?_)
  refine lv_iconst (v := nI 0) hx hb dX6_shift_28 zki_0 ?_
  have hP9 := hP.sub (ws' := [(mo, .inr (8, [.int (nI 1), .ref ra, .ref ca, .ref ha, .int (nI kp), .ref ba, .int (nI hd), .ref wa])), (ba, .inl (kb, 256, .inl (aB bf)))]) [1, 0] rfl
  have hD9 := hD.sub (ws' := [(mo, .inr (8, [.int (nI 1), .ref ra, .ref ca, .ref ha, .int (nI kp), .ref ba, .int (nI hd), .ref wa])), (ba, .inl (kb, 256, .inl (aB bf)))]) [1, 0] (by decide) rfl
  have hK9 := hK.sub (tys' := [(kb, .boolean)]) [0] rfl
  subst hAe
  refine W.widen (k := 0) (n := 0) (Nat.le_of_ble_eq_true rfl) (Nat.le_of_ble_eq_true rfl) ?_
  exact W.iret hx hb hr (fun t ht hW => ⟨⟨_, (), rfl, (rfl), by rw [ht]; exact hP9, va_K.moved hW.alike hK9, hD9⟩, hS.F ht⟩) hS.2.2 dX6_shift_29
abbrev rm_c_X6_scale_ok : Room := { frames := 4, cells := 1, slots := 256, locals := 116 }
abbrev q_c_X6_scale_ok (D : va_G) (sz : Nat) (mo : Nat) (ra : Nat) (ca : Nat) (ha : Nat) (ba : Nat) (wa : Nat) (kp : Nat) (hd : Nat) (kb : ClassId) (th : Nat) (bf : Nat → Bool) (j : Nat) : Array Value → State → Outcome → State → Prop := va_Qi (fun r (_ : Unit) => r = (nI (cn (sck bf j 256) 256))) (fun (_ : Unit) t => va_P D vwCl [(mo, .inr (8, [.int (nI 0), .ref ra, .ref ca, .ref ha, .int (nI kp), .ref ba, .int (nI hd), .ref wa])), (ba, .inl (kb, 256, .inl (aB (sck bf j 256))))] t.heap ∧ va_K D vwCl [(kb, .boolean)] t ∧ va_D (va_A [(mo, .inr (8, [.int (nI th), .ref ra, .ref ca, .ref ha, .int (nI kp), .ref ba, .int (nI hd), .ref wa])), (ba, .inl (kb, 256, .inl (aB bf)))] sz) [(mo, .inr (8, [.int (nI 0), .ref ra, .ref ca, .ref ha, .int (nI kp), .ref ba, .int (nI hd), .ref wa])), (ba, .inl (kb, 256, .inl (aB (sck bf j 256))))]) (va_A [(mo, .inr (8, [.int (nI th), .ref ra, .ref ca, .ref ha, .int (nI kp), .ref ba, .int (nI hd), .ref wa])), (ba, .inl (kb, 256, .inl (aB bf)))] sz)
set_option maxHeartbeats 4000000 in
set_option maxRecDepth 100000 in
theorem c_X6_scale_ok (l : Launch) (D : va_G) (sz : Nat) (mo : Nat) (ra : Nat) (ca : Nat) (ha : Nat) (ba : Nat) (wa : Nat) (kp : Nat) (hd : Nat) (kb : ClassId) (th : Nat) (bf : Nat → Bool) (j : Nat) (hj : j < 256) : Met l yX6_scale wsX6_scale rm_c_X6_scale_ok (va_Pc [.ref mo, .int (nI j)] (fun U => U.heap.size = sz ∧ va_P D vwCl [(mo, .inr (8, [.int (nI th), .ref ra, .ref ca, .ref ha, .int (nI kp), .ref ba, .int (nI hd), .ref wa])), (ba, .inl (kb, 256, .inl (aB bf)))] U.heap ∧ va_K D vwCl [(kb, .boolean)] U ∧ va_D (fun _ => True) [(mo, .inr (8, [.int (nI th), .ref ra, .ref ca, .ref ha, .int (nI kp), .ref ba, .int (nI hd), .ref wa])), (ba, .inl (kb, 256, .inl (aB bf)))])) (q_c_X6_scale_ok D sz mo ra ca ha ba wa kp hd kb th bf j) 1 256 (va_A [(mo, .inr (8, [.int (nI th), .ref ra, .ref ca, .ref ha, .int (nI kp), .ref ba, .int (nI hd), .ref wa])), (ba, .inl (kb, 256, .inl (aB bf)))] sz) := by
  refine Met.ofW (cc := cX6_scale) (maxL := 4) (ret := (some .int)) (by decide) rfl ?_
  intro p e s m args below meth c s₁ B hml hv
  obtain ⟨hargs, hsz, hP, hK, hD0⟩ := hv
  have hx := B.exec
  have hb := B.bytes
  have hr := B.returns
  have hts := atoms_spec (ws := wsX6_scale) B.pre
  have hown : s.vm.findClass RX6 = some m.cls := findClass_of_methodNamed B.named
  have hlocks := B.notSynchronized
  subst hsz
  have hD := hD0.self (sz := s.heap.size)
  generalize hAe : va_A [(mo, .inr (8, [.int (nI th), .ref ra, .ref ca, .ref ha, .int (nI kp), .ref ba, .int (nI hd), .ref wa])), (ba, .inl (kb, 256, .inl (aB bf)))] s.heap.size = A at hD ⊢
  have hA : ∀ q : Nat, s.heap.size ≤ q → A q := fun q h => by rw [← hAe]; exact Or.inr h
  have hS : va_S A s.heap s.heap [] := va_S.rf
  have hl := lv_entry ([.ref mo, .int (nI j)]) (n := 4) (Nat.le_of_ble_eq_true rfl)
  refine W.eq (g2 := F0 m 0 (lg_sl ([.ref mo, .int (nI j)]) ++ List.replicate (4 - (lg_sl ([.ref mo, .int (nI j)])).length) Slot.unset).toArray []) (by rw [hargs]; exact lg_entry_eq _ _ _) ?_
  generalize (lg_sl ([.ref mo, .int (nI j)]) ++ List.replicate (4 - (lg_sl ([.ref mo, .int (nI j)])).length) Slot.unset).toArray = ls at hl ⊢
  have hl : lv_has ls 4 [(0, .ref mo), (1, .int (nI j))] := hl
  refine lv_aload_n hx hb dX6_scale_0 rfl (lv_at hl 0 rfl) ?_
  refine lv_iconst (v := nI 0) hx hb dX6_scale_1 zki_0 ?_
  refine va_put (D := D) (ci := 8) (v := .int (nI 0)) (ty := .int) (C := RX6) (T := TX6) (N := 8) hx hb hts nX6_scale_inX6 tyX6 tyX6_ok nmX6 hown hK hP hD hS 0 rfl rfl 0 (by decide) (hts (.fieldLink RX6 26 "GamefieldModel" "thrown" "I") (by decide +kernel)) (fun _ h9 => h9) rfl (by decide +kernel) rfl rfl (Nat.le_of_ble_eq_true rfl) dX6_scale_2 (fun H locs hP hD hS => ?_)
  have hP : va_P D vwCl [(mo, .inr (8, [.int (nI 0), .ref ra, .ref ca, .ref ha, .int (nI kp), .ref ba, .int (nI hd), .ref wa])), (ba, .inl (kb, 256, .inl (aB bf)))] H := hP
  have hD : va_D A [(mo, .inr (8, [.int (nI 0), .ref ra, .ref ca, .ref ha, .int (nI kp), .ref ba, .int (nI hd), .ref wa])), (ba, .inl (kb, 256, .inl (aB bf)))] := hD
  refine lv_aload_n hx hb dX6_scale_5 rfl (lv_at hl 0 rfl) ?_
  refine lv_iload_n hx hb dX6_scale_6 rfl (lv_at hl 1 rfl) ?_
  refine lv_sipush (v := nI 256) hx hb dX6_scale_7 zks_256 ?_
  refine z_ci (va_runS (As := [.int (nI j), .int (nI 256)]) (rest := [.ref mo]) ⟨hx, hb, hml, hown, hts⟩ (c_X6_isNumber_ok l D j 256 (by omega) (by omega)) (va_cwS 2 hts gX6_scale_X6_isNumber rfl rfl rfl (by decide +kernel) ⟨Nat.le_of_ble_eq_true rfl, Nat.le_of_ble_eq_true rfl⟩) ⟨z_fb0, fun U hU hW => ⟨rfl, trivial⟩⟩ rfl rfl hl.1 rfl (lv_room (Nat.le_of_ble_eq_true rfl)) dX6_scale_10 ⟨Nat.le_of_ble_eq_true rfl, Nat.le_of_ble_eq_true rfl⟩) (fun r10 e10 => ?_)
  subst e10
  refine z_bne (tgt := 20) hx hb dX6_scale_13 (by decide) (fun c_13 => ?_) (fun c_13 => absurd c_13 (by decide))
  refine lv_iconst (v := nI 0) hx hb dX6_scale_20 zki_0 ?_
  refine lv_iconst (v := nI 1) hx hb dX6_scale_21 zki_1 ?_
  have hPc := hP.sub (ws' := [(mo, .inr (8, [.int (nI 0), .ref ra, .ref ca, .ref ha, .int (nI kp), .ref ba, .int (nI hd), .ref wa]))]) [0] rfl
  have hDc := hD.sub (ws' := [(mo, .inr (8, [.int (nI 0), .ref ra, .ref ca, .ref ha, .int (nI kp), .ref ba, .int (nI hd), .ref wa]))]) [0] (by decide) rfl
  have hKc := hK.sub (tys' := []) [] rfl
  have hFc := va_free (wc := [(mo, .inr (8, [.int (nI 0), .ref ra, .ref ca, .ref ha, .int (nI kp), .ref ba, .int (nI hd), .ref wa]))]) hD hS hA [0] rfl
  refine va_calli (va_runV (As := [.int (nI 0), .int (nI 1)]) (rest := []) ⟨hx, hb, hml, hown, hts⟩ (c_X6_fails_false l D H.size mo ra ca ha ba wa kp hd 1 (by omega) (by omega)) (cwV 2 hts gX6_scale_X6_fails rfl rfl rfl (by decide +kernel) ⟨Nat.le_of_ble_eq_true rfl, Nat.le_of_ble_eq_true rfl⟩) ⟨(z_fb2), va_recv hK hP (ci := 8) (q0 := 0) rfl rfl, fun U hU hW => ⟨rfl, by rw [hU], by rw [hU]; exact hPc, va_K.moved hW.alike hKc, hDc.weaken (fun _ _ _ _ => trivial)⟩⟩ rfl rfl hl.1 rfl (lv_room (Nat.le_of_ble_eq_true rfl)) dX6_scale_22 ⟨Nat.le_of_ble_eq_true rfl, Nat.le_of_ble_eq_true rfl⟩) hS (fun q _ h => hFc q h) hFc (fun r22 u22 t H locs ht hvm e22 hB hz1 hk1 hS => ?_)
  obtain ⟨hP1, hK1, hD1⟩ := hB
  rw [ht] at hP1
  obtain ⟨hP, hD⟩ := va_join (wr := [(ba, .inl (kb, 256, .inl (aB bf)))]) (w1 := [(mo, .inr (8, [.int (nI 0), .ref ra, .ref ca, .ref ha, .int (nI kp), .ref ba, .int (nI hd), .ref wa]))]) hP hD [0] [1] rfl rfl (by decide) (by decide) hk1 hFc hP1 hD1
  have hP : va_P D vwCl [(ba, .inl (kb, 256, .inl (aB bf))), (mo, .inr (8, [.int (nI 0), .ref ra, .ref ca, .ref ha, .int (nI kp), .ref ba, .int (nI hd), .ref wa]))] H := hP
  have hD : va_D A [(ba, .inl (kb, 256, .inl (aB bf))), (mo, .inr (8, [.int (nI 0), .ref ra, .ref ca, .ref ha, .int (nI kp), .ref ba, .int (nI hd), .ref wa]))] := hD
  refine W.widen (k := 0) (n := 0) (Nat.le_of_ble_eq_true rfl) (Nat.le_of_ble_eq_true rfl) ?_
  subst e22
  refine z_beq (tgt := 30) hx hb dX6_scale_25 (by decide) (fun c_25 => ?_) (fun c_25 => absurd c_25 (by decide))
  refine lv_sipush (v := nI 256) hx hb dX6_scale_30 zks_256 ?_
  refine va_newa (atype := .boolean) (N' := 256) (a0 := (256, .inl (aB (fun _ => false)))) hx hb (hts (.arrayClass .boolean) (by decide +kernel)) rfl hK hP hD hS hA (fun _ => rfl) (z_npos (by decide)) (nI_clamp (by decide)) (by decide) (Nat.le_of_ble_eq_true rfl) (Nat.le_of_ble_eq_true rfl) dX6_scale_33 (fun q33 cA33 H hK hP hD hS => ?_)
  have hK : va_K D vwCl [(kb, .boolean), (cA33, .boolean)] s := hK
  have hP : va_P D vwCl [(ba, .inl (kb, 256, .inl (aB bf))), (mo, .inr (8, [.int (nI 0), .ref ra, .ref ca, .ref ha, .int (nI kp), .ref ba, .int (nI hd), .ref wa])), (q33, .inl (cA33, 256, .inl (aB (fun _ => false))))] H := hP
  have hD : va_D A [(ba, .inl (kb, 256, .inl (aB bf))), (mo, .inr (8, [.int (nI 0), .ref ra, .ref ca, .ref ha, .int (nI kp), .ref ba, .int (nI hd), .ref wa])), (q33, .inl (cA33, 256, .inl (aB (fun _ => false))))] := hD
  refine W.widen (k := 1) (n := 256) (Nat.le_of_ble_eq_true rfl) (Nat.le_of_ble_eq_true rfl) ?_
  refine lv_astore_n (lv' := [(2, .ref q33), (0, .ref mo), (1, .int (nI j))]) hx hb dX6_scale_35 rfl hl (by decide) rfl (fun ls hl => ?_)
  refine lv_iconst (v := nI 0) hx hb dX6_scale_36 zki_0 ?_
  refine lv_istore_n (lv' := [(3, .int (nI 0)), (2, .ref q33), (0, .ref mo), (1, .int (nI j))]) hx hb dX6_scale_37 rfl hl (by decide) rfl (fun ls hl => ?_)
  have cut_38 : ∀ (nn9 : Nat) (i : Nat) (hi : i ≤ 256) (hn9 : 256 - i < nn9) (H : Heap) (locs : List Loc) (hP : va_P D vwCl [(mo, .inr (8, [.int (nI 0), .ref ra, .ref ca, .ref ha, .int (nI kp), .ref ba, .int (nI hd), .ref wa])), (ba, .inl (kb, 256, .inl (aB bf))), (q33, .inl (cA33, 256, .inl (aB (sck bf j i))))] H) (hD : va_D A [(mo, .inr (8, [.int (nI 0), .ref ra, .ref ca, .ref ha, .int (nI kp), .ref ba, .int (nI hd), .ref wa])), (ba, .inl (kb, 256, .inl (aB bf))), (q33, .inl (cA33, 256, .inl (aB (sck bf j i))))]) (hS : va_S A s.heap H locs) (ls : Array Slot) (hl : lv_has ls 4 [(0, .ref mo), (1, .int (nI j)), (2, .ref q33), (3, .int (nI i))]), W p l e (headSpec wsX6_scale rm_c_X6_scale_ok).room s m args below meth c H locs 1 256 (MQ below (q_c_X6_scale_ok D s.heap.size mo ra ca ha ba wa kp hd kb th bf j) args s 1 256 A) (F0 m 38 ls []) := by
    intro nn9
    induction nn9 with
    | zero => intro i hi hn9; exact absurd hn9 (Nat.not_lt_zero _)
    | succ nn9 ih_38 =>
      intro i hi hn9 H locs hP hD hS ls hl
      refine lv_iload_n hx hb dX6_scale_38 rfl (lv_at hl 3 rfl) ?_
      refine lv_sipush (v := nI 256) hx hb dX6_scale_39 zks_256 ?_
      refine z_cge (tgt := 68) hx hb (by omega) (by omega) dX6_scale_42 (by decide) (fun c_42 => ?_) (fun c_42 => ?_)
      · have hi9 : i = 256 := by omega
        refine lv_aload_n hx hb dX6_scale_68 rfl (lv_at hl 0 rfl) ?_
        refine lv_aload_n hx hb dX6_scale_69 rfl (lv_at hl 2 rfl) ?_
        have hPc := hP.sub (ws' := [(mo, .inr (8, [.int (nI 0), .ref ra, .ref ca, .ref ha, .int (nI kp), .ref ba, .int (nI hd), .ref wa])), (ba, .inl (kb, 256, .inl (aB bf))), (q33, .inl (cA33, 256, .inl (aB (sck bf j i))))]) [0, 1, 2] rfl
        have hDc := hD.sub (ws' := [(mo, .inr (8, [.int (nI 0), .ref ra, .ref ca, .ref ha, .int (nI kp), .ref ba, .int (nI hd), .ref wa])), (ba, .inl (kb, 256, .inl (aB bf))), (q33, .inl (cA33, 256, .inl (aB (sck bf j i))))]) [0, 1, 2] (by decide) rfl
        have hKc := hK.sub (tys' := [(kb, .boolean), (cA33, .boolean)]) [0, 1] rfl
        have hFc := va_free (wc := [(mo, .inr (8, [.int (nI 0), .ref ra, .ref ca, .ref ha, .int (nI kp), .ref ba, .int (nI hd), .ref wa])), (ba, .inl (kb, 256, .inl (aB bf))), (q33, .inl (cA33, 256, .inl (aB (sck bf j i))))]) hD hS hA [0, 1, 2] rfl
        refine va_calli (va_runV (As := [.ref q33]) (rest := []) ⟨hx, hb, hml, hown, hts⟩ (c_X6_becomes_ l D H.size mo ra ca ha ba wa kp hd kb 0 bf q33 cA33 (sck bf j i) ) (cwV 1 hts gX6_scale_X6_becomes_ rfl rfl rfl (by decide +kernel) ⟨Nat.le_of_ble_eq_true rfl, Nat.le_of_ble_eq_true rfl⟩) ⟨(z_fb2), va_recv hK hP (ci := 8) (q0 := 0) rfl rfl, fun U hU hW => ⟨rfl, by rw [hU], by rw [hU]; exact hPc, va_K.moved hW.alike hKc, hDc.weaken (fun _ _ _ _ => trivial)⟩⟩ rfl rfl hl.1 rfl (lv_room (Nat.le_of_ble_eq_true rfl)) dX6_scale_70 ⟨Nat.le_of_ble_eq_true rfl, Nat.le_of_ble_eq_true rfl⟩) hS (fun q _ h => hFc q h) hFc (fun r70 u70 t H locs ht hvm e70 hB hz1 hk1 hS => ?_)
        obtain ⟨hP1, hK1, hD1⟩ := hB
        rw [ht] at hP1
        obtain ⟨hP, hD⟩ := va_join (wr := []) (w1 := [(mo, .inr (8, [.int (nI 0), .ref ra, .ref ca, .ref ha, .int (nI kp), .ref ba, .int (nI hd), .ref wa])), (ba, .inl (kb, 256, .inl (aB (sck bf j i)))), (q33, .inl (cA33, 256, .inl (aB (sck bf j i))))]) hP hD [0, 1, 2] [] rfl rfl (by decide) (by decide) hk1 hFc hP1 hD1
        have hP : va_P D vwCl [(mo, .inr (8, [.int (nI 0), .ref ra, .ref ca, .ref ha, .int (nI kp), .ref ba, .int (nI hd), .ref wa])), (ba, .inl (kb, 256, .inl (aB (sck bf j i)))), (q33, .inl (cA33, 256, .inl (aB (sck bf j i))))] H := hP
        have hD : va_D A [(mo, .inr (8, [.int (nI 0), .ref ra, .ref ca, .ref ha, .int (nI kp), .ref ba, .int (nI hd), .ref wa])), (ba, .inl (kb, 256, .inl (aB (sck bf j i)))), (q33, .inl (cA33, 256, .inl (aB (sck bf j i))))] := hD
        refine W.widen (k := 1) (n := 256) (Nat.le_of_ble_eq_true rfl) (Nat.le_of_ble_eq_true rfl) ?_
        subst e70
        have hcm70 := cm_le bf (sck bf j i) 256
        refine lv_istore_n (lv' := [(3, .int (nI (cm bf (sck bf j i) 256))), (0, .ref mo), (1, .int (nI j)), (2, .ref q33)]) hx hb dX6_scale_73 rfl hl (by decide) rfl (fun ls hl => ?_)
        refine lv_iload_n hx hb dX6_scale_74 rfl (lv_at hl 0 rfl) ?_
        refine z_fge (tgt := 82) hx hb (by omega) dX6_scale_75 (by decide) ?_
        refine lv_aload_n hx hb dX6_scale_82 rfl (lv_at hl 1 rfl) ?_
        have hPc := hP.sub (ws' := [(mo, .inr (8, [.int (nI 0), .ref ra, .ref ca, .ref ha, .int (nI kp), .ref ba, .int (nI hd), .ref wa])), (ba, .inl (kb, 256, .inl (aB (sck bf j i))))]) [0, 1] rfl
        have hDc := hD.sub (ws' := [(mo, .inr (8, [.int (nI 0), .ref ra, .ref ca, .ref ha, .int (nI kp), .ref ba, .int (nI hd), .ref wa])), (ba, .inl (kb, 256, .inl (aB (sck bf j i))))]) [0, 1] (by decide) rfl
        have hKc := hK.sub (tys' := [(kb, .boolean)]) [0] rfl
        have hFc := va_free (wc := [(mo, .inr (8, [.int (nI 0), .ref ra, .ref ca, .ref ha, .int (nI kp), .ref ba, .int (nI hd), .ref wa])), (ba, .inl (kb, 256, .inl (aB (sck bf j i))))]) hD hS hA [0, 1] rfl
        refine va_calli (va_runV (As := []) (rest := []) ⟨hx, hb, hml, hown, hts⟩ (c_X6_size l D H.size mo ra ca ha ba wa kp hd kb 0 (sck bf j i) ) (cwV 0 hts gX6_scale_X6_size rfl rfl rfl (by decide +kernel) ⟨Nat.le_of_ble_eq_true rfl, Nat.le_of_ble_eq_true rfl⟩) ⟨(z_fb2), va_recv hK hP (ci := 8) (q0 := 0) rfl rfl, fun U hU hW => ⟨rfl, by rw [hU], by rw [hU]; exact hPc, va_K.moved hW.alike hKc, hDc.weaken (fun _ _ _ _ => trivial)⟩⟩ rfl rfl hl.1 rfl (lv_room (Nat.le_of_ble_eq_true rfl)) dX6_scale_83 ⟨Nat.le_of_ble_eq_true rfl, Nat.le_of_ble_eq_true rfl⟩) hS (fun q _ h => hFc q h) hFc (fun r83 u83 t H locs ht hvm e83 hB hz1 hk1 hS => ?_)
        obtain ⟨hP1, hK1, hD1⟩ := hB
        rw [ht] at hP1
        obtain ⟨hP, hD⟩ := va_join (wr := [(q33, .inl (cA33, 256, .inl (aB (sck bf j i))))]) (w1 := [(mo, .inr (8, [.int (nI 0), .ref ra, .ref ca, .ref ha, .int (nI kp), .ref ba, .int (nI hd), .ref wa])), (ba, .inl (kb, 256, .inl (aB (sck bf j i))))]) hP hD [0, 1] [2] rfl rfl (by decide) (by decide) hk1 hFc hP1 hD1
        have hP : va_P D vwCl [(q33, .inl (cA33, 256, .inl (aB (sck bf j i)))), (mo, .inr (8, [.int (nI 0), .ref ra, .ref ca, .ref ha, .int (nI kp), .ref ba, .int (nI hd), .ref wa])), (ba, .inl (kb, 256, .inl (aB (sck bf j i))))] H := hP
        have hD : va_D A [(q33, .inl (cA33, 256, .inl (aB (sck bf j i)))), (mo, .inr (8, [.int (nI 0), .ref ra, .ref ca, .ref ha, .int (nI kp), .ref ba, .int (nI hd), .ref wa])), (ba, .inl (kb, 256, .inl (aB (sck bf j i))))] := hD
        refine W.widen (k := 1) (n := 256) (Nat.le_of_ble_eq_true rfl) (Nat.le_of_ble_eq_true rfl) ?_
        subst e83
        have hcn83 := cn_le (sck bf j i) 256
        have hP9 := hP.sub (ws' := [(mo, .inr (8, [.int (nI 0), .ref ra, .ref ca, .ref ha, .int (nI kp), .ref ba, .int (nI hd), .ref wa])), (ba, .inl (kb, 256, .inl (aB (sck bf j i))))]) [1, 2] rfl
        have hD9 := hD.sub (ws' := [(mo, .inr (8, [.int (nI 0), .ref ra, .ref ca, .ref ha, .int (nI kp), .ref ba, .int (nI hd), .ref wa])), (ba, .inl (kb, 256, .inl (aB (sck bf j i))))]) [1, 2] (by decide) rfl
        rw [hi9] at hP9 hD9
        have hK9 := hK.sub (tys' := [(kb, .boolean)]) [0] rfl
        subst hAe
        refine W.widen (k := 1) (n := 256) (Nat.le_of_ble_eq_true rfl) (Nat.le_of_ble_eq_true rfl) ?_
        exact W.iret hx hb hr (fun t ht hW => ⟨⟨_, (), rfl, (by rw [hi9]), by rw [ht]; exact hP9, va_K.moved hW.alike hK9, hD9⟩, hS.F ht⟩) hS.2.2 dX6_scale_86
      · refine lv_aload_n hx hb dX6_scale_45 rfl (lv_at hl 0 rfl) ?_
        refine va_get (D := D) (ci := 8) (v := .ref ba) (C := RX6) (T := TX6) (N := 8) hx hb hts nX6_scale_inX6 hown hK hP 0 rfl rfl 5 (by decide) (hts (.fieldLink RX6 19 "GamefieldModel" "basket" "[Z") (by decide +kernel)) (fun _ h9 => h9) rfl dX6_scale_46 ?_
        refine lv_iload_n hx hb dX6_scale_49 rfl (lv_at hl 3 rfl) ?_
        refine z_zald hx hb hK hP 1 0 rfl rfl (by omega) (by decide) dX6_scale_50 ?_
        refine z_beq (tgt := 62) hx hb dX6_scale_51 (by decide) (fun c_51 => ?_) (fun c_51 => ?_)
        · have e9 : sck bf j i = sck bf j (i + 1) := by rw [sck, c_51]; rfl
          refine lv_iinc (v := (nI (i + 1))) (lv' := [(3, .int (nI (i + 1))), (0, .ref mo), (1, .int (nI j)), (2, .ref q33)]) hx hb dX6_scale_62 hl (k := 3) rfl (z_inc i 1) (by decide) rfl (fun ls hl => ?_)
          refine lv_goto (tgt := 38) hx hb dX6_scale_65 (by decide) ?_
          have hP : va_P D vwCl [(mo, .inr (8, [.int (nI 0), .ref ra, .ref ca, .ref ha, .int (nI kp), .ref ba, .int (nI hd), .ref wa])), (ba, .inl (kb, 256, .inl (aB bf))), (q33, .inl (cA33, 256, .inl (aB (sck bf j (i + 1)))))] H := Eq.mp (congrArg (fun z9 => va_P D vwCl [(mo, .inr (8, [.int (nI 0), .ref ra, .ref ca, .ref ha, .int (nI kp), .ref ba, .int (nI hd), .ref wa])), (ba, .inl (kb, 256, .inl (aB bf))), (q33, .inl (cA33, 256, .inl (aB z9)))] H) ((show sck bf j i = sck bf j (i + 1) from e9))) hP
          have hD : va_D A [(mo, .inr (8, [.int (nI 0), .ref ra, .ref ca, .ref ha, .int (nI kp), .ref ba, .int (nI hd), .ref wa])), (ba, .inl (kb, 256, .inl (aB bf))), (q33, .inl (cA33, 256, .inl (aB (sck bf j (i + 1)))))] := Eq.mp (congrArg (fun z9 => va_D A [(mo, .inr (8, [.int (nI 0), .ref ra, .ref ca, .ref ha, .int (nI kp), .ref ba, .int (nI hd), .ref wa])), (ba, .inl (kb, 256, .inl (aB bf))), (q33, .inl (cA33, 256, .inl (aB z9)))]) ((show sck bf j i = sck bf j (i + 1) from e9))) hD
          exact ih_38 (i + 1) (by omega) (by omega) H locs hP hD hS ls (lv_sub hl [1, 2, 3, 0] rfl)
        · have e9 : va_up (sck bf j i) (np i j) true = sck bf j (i + 1) := by rw [sck, if_pos c_51]
          refine lv_aload_n hx hb dX6_scale_54 rfl (lv_at hl 2 rfl) ?_
          refine lv_iload_n hx hb dX6_scale_55 rfl (lv_at hl 3 rfl) ?_
          refine lv_iload_n hx hb dX6_scale_56 rfl (lv_at hl 1 rfl) ?_
          refine z_ci (va_runS (As := [.int (nI i), .int (nI j)]) (rest := [.ref q33]) ⟨hx, hb, hml, hown, hts⟩ (c_X6_productOf_256 l D i j (by omega) (by omega)) (va_cwS 2 hts gX6_scale_X6_productOf rfl rfl rfl (by decide +kernel) ⟨Nat.le_of_ble_eq_true rfl, Nat.le_of_ble_eq_true rfl⟩) ⟨z_fb0, fun U hU hW => ⟨rfl, trivial⟩⟩ rfl rfl hl.1 rfl (lv_room (Nat.le_of_ble_eq_true rfl)) dX6_scale_57 ⟨Nat.le_of_ble_eq_true rfl, Nat.le_of_ble_eq_true rfl⟩) (fun r57 e57 => ?_)
          subst e57
          have hn57 : np i j < 256 := np_lt (by omega) (by omega)
          refine lv_iconst (v := nI 1) hx hb dX6_scale_60 zki_1 ?_
          refine zt (show nI 1 = bI true from rfl) ?_
          refine z_zast hx hb hK hP hD hS 2 1 rfl rfl (by omega) (by decide) dX6_scale_61 (fun H locs hP hD hS => ?_)
          have hP : va_P D vwCl [(mo, .inr (8, [.int (nI 0), .ref ra, .ref ca, .ref ha, .int (nI kp), .ref ba, .int (nI hd), .ref wa])), (ba, .inl (kb, 256, .inl (aB bf))), (q33, .inl (cA33, 256, .inl (aB (va_up (sck bf j i) (np i j) true))))] H := hP
          have hD : va_D A [(mo, .inr (8, [.int (nI 0), .ref ra, .ref ca, .ref ha, .int (nI kp), .ref ba, .int (nI hd), .ref wa])), (ba, .inl (kb, 256, .inl (aB bf))), (q33, .inl (cA33, 256, .inl (aB (va_up (sck bf j i) (np i j) true))))] := hD
          refine lv_iinc (v := (nI (i + 1))) (lv' := [(3, .int (nI (i + 1))), (0, .ref mo), (1, .int (nI j)), (2, .ref q33)]) hx hb dX6_scale_62 hl (k := 3) rfl (z_inc i 1) (by decide) rfl (fun ls hl => ?_)
          refine lv_goto (tgt := 38) hx hb dX6_scale_65 (by decide) ?_
          have hP : va_P D vwCl [(mo, .inr (8, [.int (nI 0), .ref ra, .ref ca, .ref ha, .int (nI kp), .ref ba, .int (nI hd), .ref wa])), (ba, .inl (kb, 256, .inl (aB bf))), (q33, .inl (cA33, 256, .inl (aB (sck bf j (i + 1)))))] H := Eq.mp (congrArg (fun z9 => va_P D vwCl [(mo, .inr (8, [.int (nI 0), .ref ra, .ref ca, .ref ha, .int (nI kp), .ref ba, .int (nI hd), .ref wa])), (ba, .inl (kb, 256, .inl (aB bf))), (q33, .inl (cA33, 256, .inl (aB z9)))] H) ((show va_up (sck bf j i) (np i j) true = sck bf j (i + 1) from e9))) hP
          have hD : va_D A [(mo, .inr (8, [.int (nI 0), .ref ra, .ref ca, .ref ha, .int (nI kp), .ref ba, .int (nI hd), .ref wa])), (ba, .inl (kb, 256, .inl (aB bf))), (q33, .inl (cA33, 256, .inl (aB (sck bf j (i + 1)))))] := Eq.mp (congrArg (fun z9 => va_D A [(mo, .inr (8, [.int (nI 0), .ref ra, .ref ca, .ref ha, .int (nI kp), .ref ba, .int (nI hd), .ref wa])), (ba, .inl (kb, 256, .inl (aB bf))), (q33, .inl (cA33, 256, .inl (aB z9)))]) ((show va_up (sck bf j i) (np i j) true = sck bf j (i + 1) from e9))) hD
          exact ih_38 (i + 1) (by omega) (by omega) H locs hP hD hS ls (lv_sub hl [1, 2, 3, 0] rfl)
  have hP : va_P D vwCl [(ba, .inl (kb, 256, .inl (aB bf))), (mo, .inr (8, [.int (nI 0), .ref ra, .ref ca, .ref ha, .int (nI kp), .ref ba, .int (nI hd), .ref wa])), (q33, .inl (cA33, 256, .inl (aB (sck bf j 0))))] H := Eq.mp (congrArg (fun z9 => va_P D vwCl [(ba, .inl (kb, 256, .inl (aB bf))), (mo, .inr (8, [.int (nI 0), .ref ra, .ref ca, .ref ha, .int (nI kp), .ref ba, .int (nI hd), .ref wa])), (q33, .inl (cA33, 256, .inl (aB z9)))] H) ((show (fun _ => false) = sck bf j 0 from rfl))) hP
  have hD : va_D A [(ba, .inl (kb, 256, .inl (aB bf))), (mo, .inr (8, [.int (nI 0), .ref ra, .ref ca, .ref ha, .int (nI kp), .ref ba, .int (nI hd), .ref wa])), (q33, .inl (cA33, 256, .inl (aB (sck bf j 0))))] := Eq.mp (congrArg (fun z9 => va_D A [(ba, .inl (kb, 256, .inl (aB bf))), (mo, .inr (8, [.int (nI 0), .ref ra, .ref ca, .ref ha, .int (nI kp), .ref ba, .int (nI hd), .ref wa])), (q33, .inl (cA33, 256, .inl (aB z9)))]) ((show (fun _ => false) = sck bf j 0 from rfl))) hD
  exact cut_38 ((256 - 0) + 1) 0 (by omega) (Nat.lt_succ_self _) H locs (hP.sub [1, 0, 2] rfl) (hD.sub [1, 0, 2] (by decide) rfl) hS ls (lv_sub hl [2, 3, 1, 0] rfl)
abbrev rm_c_X6_scale_no : Room := { frames := 1, cells := 0, slots := 0, locals := 22 }
abbrev q_c_X6_scale_no (D : va_G) (sz : Nat) (mo : Nat) (ra : Nat) (ca : Nat) (ha : Nat) (ba : Nat) (wa : Nat) (kp : Nat) (hd : Nat) (kb : ClassId) (th : Nat) (bf : Nat → Bool) (x0 : Int32) : Array Value → State → Outcome → State → Prop := va_Qi (fun r (_ : Unit) => r = (nI 0)) (fun (_ : Unit) t => va_P D vwCl [(mo, .inr (8, [.int (nI 1), .ref ra, .ref ca, .ref ha, .int (nI kp), .ref ba, .int (nI hd), .ref wa])), (ba, .inl (kb, 256, .inl (aB bf)))] t.heap ∧ va_K D vwCl [(kb, .boolean)] t ∧ va_D (va_A [(mo, .inr (8, [.int (nI th), .ref ra, .ref ca, .ref ha, .int (nI kp), .ref ba, .int (nI hd), .ref wa])), (ba, .inl (kb, 256, .inl (aB bf)))] sz) [(mo, .inr (8, [.int (nI 1), .ref ra, .ref ca, .ref ha, .int (nI kp), .ref ba, .int (nI hd), .ref wa])), (ba, .inl (kb, 256, .inl (aB bf)))]) (va_A [(mo, .inr (8, [.int (nI th), .ref ra, .ref ca, .ref ha, .int (nI kp), .ref ba, .int (nI hd), .ref wa])), (ba, .inl (kb, 256, .inl (aB bf)))] sz)
set_option maxHeartbeats 4000000 in
set_option maxRecDepth 100000 in
theorem c_X6_scale_no (l : Launch) (D : va_G) (sz : Nat) (mo : Nat) (ra : Nat) (ca : Nat) (ha : Nat) (ba : Nat) (wa : Nat) (kp : Nat) (hd : Nat) (kb : ClassId) (th : Nat) (bf : Nat → Bool) (x0 : Int32) (hno : inN 256 x0 = false) : Met l yX6_scale wsX6_scale rm_c_X6_scale_no (va_Pc [.ref mo, .int x0] (fun U => U.heap.size = sz ∧ va_P D vwCl [(mo, .inr (8, [.int (nI th), .ref ra, .ref ca, .ref ha, .int (nI kp), .ref ba, .int (nI hd), .ref wa])), (ba, .inl (kb, 256, .inl (aB bf)))] U.heap ∧ va_K D vwCl [(kb, .boolean)] U ∧ va_D (fun _ => True) [(mo, .inr (8, [.int (nI th), .ref ra, .ref ca, .ref ha, .int (nI kp), .ref ba, .int (nI hd), .ref wa])), (ba, .inl (kb, 256, .inl (aB bf)))])) (q_c_X6_scale_no D sz mo ra ca ha ba wa kp hd kb th bf x0) 0 0 (va_A [(mo, .inr (8, [.int (nI th), .ref ra, .ref ca, .ref ha, .int (nI kp), .ref ba, .int (nI hd), .ref wa])), (ba, .inl (kb, 256, .inl (aB bf)))] sz) := by
  refine Met.ofW (cc := cX6_scale) (maxL := 4) (ret := (some .int)) (by decide) rfl ?_
  intro p e s m args below meth c s₁ B hml hv
  obtain ⟨hargs, hsz, hP, hK, hD0⟩ := hv
  have hx := B.exec
  have hb := B.bytes
  have hr := B.returns
  have hts := atoms_spec (ws := wsX6_scale) B.pre
  have hown : s.vm.findClass RX6 = some m.cls := findClass_of_methodNamed B.named
  have hlocks := B.notSynchronized
  subst hsz
  have hD := hD0.self (sz := s.heap.size)
  generalize hAe : va_A [(mo, .inr (8, [.int (nI th), .ref ra, .ref ca, .ref ha, .int (nI kp), .ref ba, .int (nI hd), .ref wa])), (ba, .inl (kb, 256, .inl (aB bf)))] s.heap.size = A at hD ⊢
  have hA : ∀ q : Nat, s.heap.size ≤ q → A q := fun q h => by rw [← hAe]; exact Or.inr h
  have hS : va_S A s.heap s.heap [] := va_S.rf
  have hl := lv_entry ([.ref mo, .int x0]) (n := 4) (Nat.le_of_ble_eq_true rfl)
  refine W.eq (g2 := F0 m 0 (lg_sl ([.ref mo, .int x0]) ++ List.replicate (4 - (lg_sl ([.ref mo, .int x0])).length) Slot.unset).toArray []) (by rw [hargs]; exact lg_entry_eq _ _ _) ?_
  generalize (lg_sl ([.ref mo, .int x0]) ++ List.replicate (4 - (lg_sl ([.ref mo, .int x0])).length) Slot.unset).toArray = ls at hl ⊢
  have hl : lv_has ls 4 [(0, .ref mo), (1, .int x0)] := hl
  refine lv_aload_n hx hb dX6_scale_0 rfl (lv_at hl 0 rfl) ?_
  refine lv_iconst (v := nI 0) hx hb dX6_scale_1 zki_0 ?_
  refine va_put (D := D) (ci := 8) (v := .int (nI 0)) (ty := .int) (C := RX6) (T := TX6) (N := 8) hx hb hts nX6_scale_inX6 tyX6 tyX6_ok nmX6 hown hK hP hD hS 0 rfl rfl 0 (by decide) (hts (.fieldLink RX6 26 "GamefieldModel" "thrown" "I") (by decide +kernel)) (fun _ h9 => h9) rfl (by decide +kernel) rfl rfl (Nat.le_of_ble_eq_true rfl) dX6_scale_2 (fun H locs hP hD hS => ?_)
  have hP : va_P D vwCl [(mo, .inr (8, [.int (nI 0), .ref ra, .ref ca, .ref ha, .int (nI kp), .ref ba, .int (nI hd), .ref wa])), (ba, .inl (kb, 256, .inl (aB bf)))] H := hP
  have hD : va_D A [(mo, .inr (8, [.int (nI 0), .ref ra, .ref ca, .ref ha, .int (nI kp), .ref ba, .int (nI hd), .ref wa])), (ba, .inl (kb, 256, .inl (aB bf)))] := hD
  refine lv_aload_n hx hb dX6_scale_5 rfl (lv_at hl 0 rfl) ?_
  refine lv_iload_n hx hb dX6_scale_6 rfl (lv_at hl 1 rfl) ?_
  refine lv_sipush (v := nI 256) hx hb dX6_scale_7 zks_256 ?_
  refine z_ci (va_runS (As := [.int x0, .int (nI 256)]) (rest := [.ref mo]) ⟨hx, hb, hml, hown, hts⟩ (c_X6_isNumber l D x0 256 (by omega)) (va_cwS 2 hts gX6_scale_X6_isNumber rfl rfl rfl (by decide +kernel) ⟨Nat.le_of_ble_eq_true rfl, Nat.le_of_ble_eq_true rfl⟩) ⟨z_fb0, fun U hU hW => ⟨rfl, trivial⟩⟩ rfl rfl hl.1 rfl (lv_room (Nat.le_of_ble_eq_true rfl)) dX6_scale_10 ⟨Nat.le_of_ble_eq_true rfl, Nat.le_of_ble_eq_true rfl⟩) (fun r10 e10 => ?_)
  subst e10
  refine z_bne (tgt := 20) hx hb dX6_scale_13 (by decide) (fun c_13 => absurd (hno.symm.trans c_13) (by decide)) (fun c_13 => ?_)
  refine lv_iconst (v := nI 1) hx hb dX6_scale_16 zki_1 ?_
  refine lv_goto (tgt := 21) hx hb dX6_scale_17 (by decide) ?_
  refine lv_iconst (v := nI 1) hx hb dX6_scale_21 zki_1 ?_
  have hPc := hP.sub (ws' := [(mo, .inr (8, [.int (nI 0), .ref ra, .ref ca, .ref ha, .int (nI kp), .ref ba, .int (nI hd), .ref wa]))]) [0] rfl
  have hDc := hD.sub (ws' := [(mo, .inr (8, [.int (nI 0), .ref ra, .ref ca, .ref ha, .int (nI kp), .ref ba, .int (nI hd), .ref wa]))]) [0] (by decide) rfl
  have hKc := hK.sub (tys' := []) [] rfl
  have hFc := va_free (wc := [(mo, .inr (8, [.int (nI 0), .ref ra, .ref ca, .ref ha, .int (nI kp), .ref ba, .int (nI hd), .ref wa]))]) hD hS hA [0] rfl
  refine va_calli (va_runV (As := [.int (nI 1), .int (nI 1)]) (rest := []) ⟨hx, hb, hml, hown, hts⟩ (c_X6_fails_true l D H.size mo ra ca ha ba wa kp hd 1 (by omega) (by omega)) (cwV 2 hts gX6_scale_X6_fails rfl rfl rfl (by decide +kernel) ⟨Nat.le_of_ble_eq_true rfl, Nat.le_of_ble_eq_true rfl⟩) ⟨(z_fb2), va_recv hK hP (ci := 8) (q0 := 0) rfl rfl, fun U hU hW => ⟨rfl, by rw [hU], by rw [hU]; exact hPc, va_K.moved hW.alike hKc, hDc.weaken (fun _ _ _ _ => trivial)⟩⟩ rfl rfl hl.1 rfl (lv_room (Nat.le_of_ble_eq_true rfl)) dX6_scale_22 ⟨Nat.le_of_ble_eq_true rfl, Nat.le_of_ble_eq_true rfl⟩) hS (fun q _ h => hFc q h) hFc (fun r22 u22 t H locs ht hvm e22 hB hz1 hk1 hS => ?_)
  obtain ⟨hP1, hK1, hD1⟩ := hB
  rw [ht] at hP1
  obtain ⟨hP, hD⟩ := va_join (wr := [(ba, .inl (kb, 256, .inl (aB bf)))]) (w1 := [(mo, .inr (8, [.int (nI 1), .ref ra, .ref ca, .ref ha, .int (nI kp), .ref ba, .int (nI hd), .ref wa]))]) hP hD [0] [1] rfl rfl (by decide) (by decide) hk1 hFc hP1 hD1
  have hP : va_P D vwCl [(ba, .inl (kb, 256, .inl (aB bf))), (mo, .inr (8, [.int (nI 1), .ref ra, .ref ca, .ref ha, .int (nI kp), .ref ba, .int (nI hd), .ref wa]))] H := hP
  have hD : va_D A [(ba, .inl (kb, 256, .inl (aB bf))), (mo, .inr (8, [.int (nI 1), .ref ra, .ref ca, .ref ha, .int (nI kp), .ref ba, .int (nI hd), .ref wa]))] := hD
  refine W.widen (k := 0) (n := 0) (Nat.le_of_ble_eq_true rfl) (Nat.le_of_ble_eq_true rfl) ?_
  subst e22
  refine z_beq (tgt := 30) hx hb dX6_scale_25 (by decide) (fun c_25 => absurd c_25 (by decide)) (fun c_25 => ?_)
  refine lv_iconst (v := nI 0) hx hb dX6_scale_28 zki_0 ?_
  have hP9 := hP.sub (ws' := [(mo, .inr (8, [.int (nI 1), .ref ra, .ref ca, .ref ha, .int (nI kp), .ref ba, .int (nI hd), .ref wa])), (ba, .inl (kb, 256, .inl (aB bf)))]) [1, 0] rfl
  have hD9 := hD.sub (ws' := [(mo, .inr (8, [.int (nI 1), .ref ra, .ref ca, .ref ha, .int (nI kp), .ref ba, .int (nI hd), .ref wa])), (ba, .inl (kb, 256, .inl (aB bf)))]) [1, 0] (by decide) rfl
  have hK9 := hK.sub (tys' := [(kb, .boolean)]) [0] rfl
  subst hAe
  refine W.widen (k := 0) (n := 0) (Nat.le_of_ble_eq_true rfl) (Nat.le_of_ble_eq_true rfl) ?_
  exact W.iret hx hb hr (fun t ht hW => ⟨⟨_, (), rfl, (rfl), by rw [ht]; exact hP9, va_K.moved hW.alike hK9, hD9⟩, hS.F ht⟩) hS.2.2 dX6_scale_29
abbrev rm_c_X6_clear : Room := { frames := 1, cells := 1, slots := 256, locals := 25 }
abbrev q_c_X6_clear (D : va_G) (sz : Nat) (mo : Nat) (ra : Nat) (ca : Nat) (ha : Nat) (ba : Nat) (wa : Nat) (kp : Nat) (hd : Nat) (kb : ClassId) (th : Nat) (bf : Nat → Bool) : Array Value → State → Outcome → State → Prop := va_Qi (fun r (_ : Unit) => r = (nI (cn bf 256))) (fun (_ : Unit) t => va_P D vwCl [(mo, .inr (8, [.int (nI 0), .ref ra, .ref ca, .ref ha, .int (nI kp), .ref ba, .int (nI hd), .ref wa])), (ba, .inl (kb, 256, .inl (aB (fun _ => false))))] t.heap ∧ va_K D vwCl [(kb, .boolean)] t ∧ va_D (va_A [(mo, .inr (8, [.int (nI th), .ref ra, .ref ca, .ref ha, .int (nI kp), .ref ba, .int (nI hd), .ref wa])), (ba, .inl (kb, 256, .inl (aB bf)))] sz) [(mo, .inr (8, [.int (nI 0), .ref ra, .ref ca, .ref ha, .int (nI kp), .ref ba, .int (nI hd), .ref wa])), (ba, .inl (kb, 256, .inl (aB (fun _ => false))))]) (va_A [(mo, .inr (8, [.int (nI th), .ref ra, .ref ca, .ref ha, .int (nI kp), .ref ba, .int (nI hd), .ref wa])), (ba, .inl (kb, 256, .inl (aB bf)))] sz)
set_option maxHeartbeats 4000000 in
set_option maxRecDepth 100000 in
theorem c_X6_clear (l : Launch) (D : va_G) (sz : Nat) (mo : Nat) (ra : Nat) (ca : Nat) (ha : Nat) (ba : Nat) (wa : Nat) (kp : Nat) (hd : Nat) (kb : ClassId) (th : Nat) (bf : Nat → Bool) : Met l yX6_clear wsX6_clear rm_c_X6_clear (va_Pc [.ref mo] (fun U => U.heap.size = sz ∧ va_P D vwCl [(mo, .inr (8, [.int (nI th), .ref ra, .ref ca, .ref ha, .int (nI kp), .ref ba, .int (nI hd), .ref wa])), (ba, .inl (kb, 256, .inl (aB bf)))] U.heap ∧ va_K D vwCl [(kb, .boolean)] U ∧ va_D (fun _ => True) [(mo, .inr (8, [.int (nI th), .ref ra, .ref ca, .ref ha, .int (nI kp), .ref ba, .int (nI hd), .ref wa])), (ba, .inl (kb, 256, .inl (aB bf)))])) (q_c_X6_clear D sz mo ra ca ha ba wa kp hd kb th bf) 1 256 (va_A [(mo, .inr (8, [.int (nI th), .ref ra, .ref ca, .ref ha, .int (nI kp), .ref ba, .int (nI hd), .ref wa])), (ba, .inl (kb, 256, .inl (aB bf)))] sz) := by
  refine Met.ofW (cc := cX6_clear) (maxL := 3) (ret := (some .int)) (by decide) rfl ?_
  intro p e s m args below meth c s₁ B hml hv
  obtain ⟨hargs, hsz, hP, hK, hD0⟩ := hv
  have hx := B.exec
  have hb := B.bytes
  have hr := B.returns
  have hts := atoms_spec (ws := wsX6_clear) B.pre
  have hown : s.vm.findClass RX6 = some m.cls := findClass_of_methodNamed B.named
  have hlocks := B.notSynchronized
  subst hsz
  have hD := hD0.self (sz := s.heap.size)
  generalize hAe : va_A [(mo, .inr (8, [.int (nI th), .ref ra, .ref ca, .ref ha, .int (nI kp), .ref ba, .int (nI hd), .ref wa])), (ba, .inl (kb, 256, .inl (aB bf)))] s.heap.size = A at hD ⊢
  have hA : ∀ q : Nat, s.heap.size ≤ q → A q := fun q h => by rw [← hAe]; exact Or.inr h
  have hS : va_S A s.heap s.heap [] := va_S.rf
  have hl := lv_entry ([.ref mo]) (n := 3) (Nat.le_of_ble_eq_true rfl)
  refine W.eq (g2 := F0 m 0 (lg_sl ([.ref mo]) ++ List.replicate (3 - (lg_sl ([.ref mo])).length) Slot.unset).toArray []) (by rw [hargs]; exact lg_entry_eq _ _ _) ?_
  generalize (lg_sl ([.ref mo]) ++ List.replicate (3 - (lg_sl ([.ref mo])).length) Slot.unset).toArray = ls at hl ⊢
  have hl : lv_has ls 3 [(0, .ref mo)] := hl
  refine lv_aload_n hx hb dX6_clear_0 rfl (lv_at hl 0 rfl) ?_
  have hPc := hP.sub (ws' := [(mo, .inr (8, [.int (nI th), .ref ra, .ref ca, .ref ha, .int (nI kp), .ref ba, .int (nI hd), .ref wa])), (ba, .inl (kb, 256, .inl (aB bf)))]) [0, 1] rfl
  have hDc := hD.sub (ws' := [(mo, .inr (8, [.int (nI th), .ref ra, .ref ca, .ref ha, .int (nI kp), .ref ba, .int (nI hd), .ref wa])), (ba, .inl (kb, 256, .inl (aB bf)))]) [0, 1] (by decide) rfl
  have hKc := hK.sub (tys' := [(kb, .boolean)]) [0] rfl
  have hFc := va_free (wc := [(mo, .inr (8, [.int (nI th), .ref ra, .ref ca, .ref ha, .int (nI kp), .ref ba, .int (nI hd), .ref wa])), (ba, .inl (kb, 256, .inl (aB bf)))]) hD hS hA [0, 1] rfl
  refine va_calli (va_runV (As := []) (rest := []) ⟨hx, hb, hml, hown, hts⟩ (c_X6_size l D s.heap.size mo ra ca ha ba wa kp hd kb th bf ) (cwV 0 hts gX6_clear_X6_size rfl rfl rfl (by decide +kernel) ⟨Nat.le_of_ble_eq_true rfl, Nat.le_of_ble_eq_true rfl⟩) ⟨(z_fb2), va_recv hK hP (ci := 8) (q0 := 0) rfl rfl, fun U hU hW => ⟨rfl, by rw [hU], by rw [hU]; exact hPc, va_K.moved hW.alike hKc, hDc.weaken (fun _ _ _ _ => trivial)⟩⟩ rfl rfl hl.1 rfl (lv_room (Nat.le_of_ble_eq_true rfl)) dX6_clear_1 ⟨Nat.le_of_ble_eq_true rfl, Nat.le_of_ble_eq_true rfl⟩) hS (fun q _ h => hFc q h) hFc (fun r1 u1 t H locs ht hvm e1 hB hz1 hk1 hS => ?_)
  obtain ⟨hP1, hK1, hD1⟩ := hB
  rw [ht] at hP1
  obtain ⟨hP, hD⟩ := va_join (wr := []) (w1 := [(mo, .inr (8, [.int (nI 0), .ref ra, .ref ca, .ref ha, .int (nI kp), .ref ba, .int (nI hd), .ref wa])), (ba, .inl (kb, 256, .inl (aB bf)))]) hP hD [0, 1] [] rfl rfl (by decide) (by decide) hk1 hFc hP1 hD1
  have hP : va_P D vwCl [(mo, .inr (8, [.int (nI 0), .ref ra, .ref ca, .ref ha, .int (nI kp), .ref ba, .int (nI hd), .ref wa])), (ba, .inl (kb, 256, .inl (aB bf)))] H := hP
  have hD : va_D A [(mo, .inr (8, [.int (nI 0), .ref ra, .ref ca, .ref ha, .int (nI kp), .ref ba, .int (nI hd), .ref wa])), (ba, .inl (kb, 256, .inl (aB bf)))] := hD
  refine W.widen (k := 0) (n := 0) (Nat.le_of_ble_eq_true rfl) (Nat.le_of_ble_eq_true rfl) ?_
  subst e1
  have hcn1 := cn_le bf 256
  refine lv_istore_n (lv' := [(1, .int (nI (cn bf 256))), (0, .ref mo)]) hx hb dX6_clear_4 rfl hl (by decide) rfl (fun ls hl => ?_)
  refine lv_aload_n hx hb dX6_clear_5 rfl (lv_at hl 1 rfl) ?_
  refine lv_sipush (v := nI 256) hx hb dX6_clear_6 zks_256 ?_
  refine va_newa (atype := .boolean) (N' := 256) (a0 := (256, .inl (aB (fun _ => false)))) hx hb (hts (.arrayClass .boolean) (by decide +kernel)) rfl hK hP hD hS hA (fun _ => rfl) (z_npos (by decide)) (nI_clamp (by decide)) (by decide) (Nat.le_of_ble_eq_true rfl) (Nat.le_of_ble_eq_true rfl) dX6_clear_9 (fun q9 cA9 H hK hP hD hS => ?_)
  have hK : va_K D vwCl [(kb, .boolean), (cA9, .boolean)] s := hK
  have hP : va_P D vwCl [(mo, .inr (8, [.int (nI 0), .ref ra, .ref ca, .ref ha, .int (nI kp), .ref ba, .int (nI hd), .ref wa])), (ba, .inl (kb, 256, .inl (aB bf))), (q9, .inl (cA9, 256, .inl (aB (fun _ => false))))] H := hP
  have hD : va_D A [(mo, .inr (8, [.int (nI 0), .ref ra, .ref ca, .ref ha, .int (nI kp), .ref ba, .int (nI hd), .ref wa])), (ba, .inl (kb, 256, .inl (aB bf))), (q9, .inl (cA9, 256, .inl (aB (fun _ => false))))] := hD
  refine W.widen (k := 1) (n := 256) (Nat.le_of_ble_eq_true rfl) (Nat.le_of_ble_eq_true rfl) ?_
  have hPc := hP.sub (ws' := [(mo, .inr (8, [.int (nI 0), .ref ra, .ref ca, .ref ha, .int (nI kp), .ref ba, .int (nI hd), .ref wa])), (ba, .inl (kb, 256, .inl (aB bf))), (q9, .inl (cA9, 256, .inl (aB (fun _ => false))))]) [0, 1, 2] rfl
  have hDc := hD.sub (ws' := [(mo, .inr (8, [.int (nI 0), .ref ra, .ref ca, .ref ha, .int (nI kp), .ref ba, .int (nI hd), .ref wa])), (ba, .inl (kb, 256, .inl (aB bf))), (q9, .inl (cA9, 256, .inl (aB (fun _ => false))))]) [0, 1, 2] (by decide) rfl
  have hKc := hK.sub (tys' := [(kb, .boolean), (cA9, .boolean)]) [0, 1] rfl
  have hFc := va_free (wc := [(mo, .inr (8, [.int (nI 0), .ref ra, .ref ca, .ref ha, .int (nI kp), .ref ba, .int (nI hd), .ref wa])), (ba, .inl (kb, 256, .inl (aB bf))), (q9, .inl (cA9, 256, .inl (aB (fun _ => false))))]) hD hS hA [0, 1, 2] rfl
  refine va_calli (va_runV (As := [.ref q9]) (rest := []) ⟨hx, hb, hml, hown, hts⟩ (c_X6_becomes_ l D H.size mo ra ca ha ba wa kp hd kb 0 bf q9 cA9 (fun _ => false) ) (cwV 1 hts gX6_clear_X6_becomes_ rfl rfl rfl (by decide +kernel) ⟨Nat.le_of_ble_eq_true rfl, Nat.le_of_ble_eq_true rfl⟩) ⟨(z_fb2), va_recv hK hP (ci := 8) (q0 := 0) rfl rfl, fun U hU hW => ⟨rfl, by rw [hU], by rw [hU]; exact hPc, va_K.moved hW.alike hKc, hDc.weaken (fun _ _ _ _ => trivial)⟩⟩ rfl rfl hl.1 rfl (lv_room (Nat.le_of_ble_eq_true rfl)) dX6_clear_11 ⟨Nat.le_of_ble_eq_true rfl, Nat.le_of_ble_eq_true rfl⟩) hS (fun q _ h => hFc q h) hFc (fun r11 u11 t H locs ht hvm e11 hB hz1 hk1 hS => ?_)
  obtain ⟨hP1, hK1, hD1⟩ := hB
  rw [ht] at hP1
  obtain ⟨hP, hD⟩ := va_join (wr := []) (w1 := [(mo, .inr (8, [.int (nI 0), .ref ra, .ref ca, .ref ha, .int (nI kp), .ref ba, .int (nI hd), .ref wa])), (ba, .inl (kb, 256, .inl (aB (fun _ => false)))), (q9, .inl (cA9, 256, .inl (aB (fun _ => false))))]) hP hD [0, 1, 2] [] rfl rfl (by decide) (by decide) hk1 hFc hP1 hD1
  have hP : va_P D vwCl [(mo, .inr (8, [.int (nI 0), .ref ra, .ref ca, .ref ha, .int (nI kp), .ref ba, .int (nI hd), .ref wa])), (ba, .inl (kb, 256, .inl (aB (fun _ => false)))), (q9, .inl (cA9, 256, .inl (aB (fun _ => false))))] H := hP
  have hD : va_D A [(mo, .inr (8, [.int (nI 0), .ref ra, .ref ca, .ref ha, .int (nI kp), .ref ba, .int (nI hd), .ref wa])), (ba, .inl (kb, 256, .inl (aB (fun _ => false)))), (q9, .inl (cA9, 256, .inl (aB (fun _ => false))))] := hD
  refine W.widen (k := 1) (n := 256) (Nat.le_of_ble_eq_true rfl) (Nat.le_of_ble_eq_true rfl) ?_
  subst e11
  have hcm11 := cm_le bf (fun _ => false) 256
  refine lv_istore_n (lv' := [(2, .int (nI (cm bf (fun _ => false) 256))), (1, .int (nI (cn bf 256))), (0, .ref mo)]) hx hb dX6_clear_14 rfl hl (by decide) rfl (fun ls hl => ?_)
  refine lv_iload_n hx hb dX6_clear_15 rfl (lv_at hl 0 rfl) ?_
  refine z_fne (tgt := 23) hx hb (by omega) dX6_clear_16 (by decide) (fun c_16 => absurd (cm_0 bf 256) (by omega)) (fun c_16 => ?_)
  refine lv_iload_n hx hb dX6_clear_19 rfl (lv_at hl 1 rfl) ?_
  refine lv_goto (tgt := 24) hx hb dX6_clear_20 (by decide) ?_
  have hP9 := hP.sub (ws' := [(mo, .inr (8, [.int (nI 0), .ref ra, .ref ca, .ref ha, .int (nI kp), .ref ba, .int (nI hd), .ref wa])), (ba, .inl (kb, 256, .inl (aB (fun _ => false))))]) [0, 1] rfl
  have hD9 := hD.sub (ws' := [(mo, .inr (8, [.int (nI 0), .ref ra, .ref ca, .ref ha, .int (nI kp), .ref ba, .int (nI hd), .ref wa])), (ba, .inl (kb, 256, .inl (aB (fun _ => false))))]) [0, 1] (by decide) rfl
  have hK9 := hK.sub (tys' := [(kb, .boolean)]) [0] rfl
  subst hAe
  refine W.widen (k := 1) (n := 256) (Nat.le_of_ble_eq_true rfl) (Nat.le_of_ble_eq_true rfl) ?_
  exact W.iret hx hb hr (fun t ht hW => ⟨⟨_, (), rfl, (rfl), by rw [ht]; exact hP9, va_K.moved hW.alike hK9, hD9⟩, hS.F ht⟩) hS.2.2 dX6_clear_24
