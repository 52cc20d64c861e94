theorem nX2_canHold_inX2 : ∀ w ∈ u_ws RX2 TX2 1, w ∈ wsX2_canHold := by decide +kernel
theorem nX2_contains_inX2 : ∀ w ∈ u_ws RX2 TX2 1, w ∈ wsX2_contains := by decide +kernel
theorem nX2_add_inX2 : ∀ w ∈ u_ws RX2 TX2 1, w ∈ wsX2_add := by decide +kernel
theorem nX2_remove_inX2 : ∀ w ∈ u_ws RX2 TX2 1, w ∈ wsX2_remove := by decide +kernel
theorem nX2_count_inX2 : ∀ w ∈ u_ws RX2 TX2 1, w ∈ wsX2_count := by decide +kernel
theorem nX2_numberBehind_inX2 : ∀ w ∈ u_ws RX2 TX2 1, w ∈ wsX2_numberBehind := by decide +kernel
theorem nX2_leastAbsent_inX2 : ∀ w ∈ u_ws RX2 TX2 1, w ∈ wsX2_leastAbsent := by decide +kernel
theorem nX2_empty_inX2 : ∀ w ∈ u_ws RX2 TX2 1, w ∈ wsX2_empty := by decide +kernel
theorem nX2_become_inX2 : ∀ w ∈ u_ws RX2 TX2 1, w ∈ wsX2_become := by decide +kernel
abbrev rm_c_X2_canHold : Room := { frames := 0, cells := 0, slots := 0, locals := 0 }
abbrev q_c_X2_canHold (D : va_G) (a : Nat) (h : Nat) (cZ : ClassId) (f : Nat → Bool) (n : Nat) : Array Value → State → Outcome → State → Prop := vp_Si (fun r => r = (bI (decide (n < 256))))
set_option maxHeartbeats 4000000 in
set_option maxRecDepth 100000 in
theorem c_X2_canHold (l : Launch) (D : va_G) (a : Nat) (h : Nat) (cZ : ClassId) (f : Nat → Bool) (n : Nat) (hn : n < 2147483648) : Met l yX2_canHold wsX2_canHold rm_c_X2_canHold (va_Pc [.ref a, .int (nI n)] (fun U => va_P D vwCl [(a, .inr (4, [.ref h])), (h, .inl (cZ, 256, .inl (aB f)))] U.heap ∧ va_K D vwCl [(cZ, .boolean)] U)) (q_c_X2_canHold D a h cZ f n) 0 0 (fun _ => False) := by
  refine Met.ofW (cc := cX2_canHold) (maxL := 2) (ret := (some .boolean)) (by decide) rfl ?_
  intro p e s m args below meth c s₁ B hml hv
  obtain ⟨hargs, hP, hK⟩ := hv
  have hx := B.exec
  have hb := B.bytes
  have hr := B.returns
  have hts := atoms_spec (ws := wsX2_canHold) B.pre
  have hown : s.vm.findClass RX2 = some m.cls := findClass_of_methodNamed B.named
  have hlocks := B.notSynchronized
  have hl := lv_entry ([.ref a, .int (nI n)]) (n := 2) (Nat.le_of_ble_eq_true rfl)
  refine W.eq (g2 := F0 m 0 (lg_sl ([.ref a, .int (nI n)]) ++ List.replicate (2 - (lg_sl ([.ref a, .int (nI n)])).length) Slot.unset).toArray []) (by rw [hargs]; exact lg_entry_eq _ _ _) ?_
  generalize (lg_sl ([.ref a, .int (nI n)]) ++ List.replicate (2 - (lg_sl ([.ref a, .int (nI n)])).length) Slot.unset).toArray = ls at hl ⊢
  have hl : lv_has ls 2 [(0, .ref a), (1, .int (nI n))] := hl
  refine lv_iload_n hx hb dX2_canHold_0 rfl (lv_at hl 1 rfl) ?_
  refine z_flt (tgt := 17) hx hb (by omega) dX2_canHold_1 (by decide) ?_
  refine lv_iload_n hx hb dX2_canHold_4 rfl (lv_at hl 1 rfl) ?_
  refine lv_aload_n hx hb dX2_canHold_5 rfl (lv_at hl 0 rfl) ?_
  refine va_get (D := D) (ci := 4) (v := .ref h) (C := RX2) (T := TX2) (N := 1) hx hb hts nX2_canHold_inX2 hown hK hP 0 rfl rfl 0 (by decide) (hts (.fieldLink RX2 9 "Gamefield$NumberSet" "holds" "[Z") (by decide +kernel)) (fun _ h9 => h9) rfl dX2_canHold_6 ?_
  refine va_alen (v := nI 256) hx hb hK hP 1 0 rfl rfl rfl dX2_canHold_9 ?_
  refine z_cge (tgt := 17) hx hb (by omega) (by omega) dX2_canHold_10 (by decide) (fun c_10 => ?_) (fun c_10 => ?_)
  · refine lv_iconst (v := nI 0) hx hb dX2_canHold_17 zki_0 ?_
    refine zt (show nI 0 = bI false from rfl) ?_
    exact W.zret (ty := .boolean) hx hb hr (z_narB _) (fun t ht _ => ⟨_, rfl, (congrArg bI (decide_eq_false (Nat.not_lt.mpr c_10)).symm), ht⟩) (fun _ h => nomatch h) dX2_canHold_18
  · refine lv_iconst (v := nI 1) hx hb dX2_canHold_13 zki_1 ?_
    refine lv_goto (tgt := 18) hx hb dX2_canHold_14 (by decide) ?_
    refine zt (show nI 1 = bI true from rfl) ?_
    exact W.zret (ty := .boolean) hx hb hr (z_narB _) (fun t ht _ => ⟨_, rfl, (congrArg bI (decide_eq_true c_10).symm), ht⟩) (fun _ h => nomatch h) dX2_canHold_18
abbrev rm_c_X2_canHold_any : Room := { frames := 0, cells := 0, slots := 0, locals := 0 }
abbrev q_c_X2_canHold_any (D : va_G) (a : Nat) (h : Nat) (cZ : ClassId) (f : Nat → Bool) (x : Int32) : Array Value → State → Outcome → State → Prop := vp_Si (fun r => r = (bI (inB x)))
set_option maxHeartbeats 4000000 in
set_option maxRecDepth 100000 in
theorem c_X2_canHold_any (l : Launch) (D : va_G) (a : Nat) (h : Nat) (cZ : ClassId) (f : Nat → Bool) (x : Int32) : Met l yX2_canHold wsX2_canHold rm_c_X2_canHold_any (va_Pc [.ref a, .int x] (fun U => va_P D vwCl [(a, .inr (4, [.ref h])), (h, .inl (cZ, 256, .inl (aB f)))] U.heap ∧ va_K D vwCl [(cZ, .boolean)] U)) (q_c_X2_canHold_any D a h cZ f x) 0 0 (fun _ => False) := by
  refine Met.ofW (cc := cX2_canHold) (maxL := 2) (ret := (some .boolean)) (by decide) rfl ?_
  intro p e s m args below meth c s₁ B hml hv
  obtain ⟨hargs, hP, hK⟩ := hv
  have hx := B.exec
  have hb := B.bytes
  have hr := B.returns
  have hts := atoms_spec (ws := wsX2_canHold) B.pre
  have hown : s.vm.findClass RX2 = some m.cls := findClass_of_methodNamed B.named
  have hlocks := B.notSynchronized
  have hl := lv_entry ([.ref a, .int x]) (n := 2) (Nat.le_of_ble_eq_true rfl)
  refine W.eq (g2 := F0 m 0 (lg_sl ([.ref a, .int x]) ++ List.replicate (2 - (lg_sl ([.ref a, .int x])).length) Slot.unset).toArray []) (by rw [hargs]; exact lg_entry_eq _ _ _) ?_
  generalize (lg_sl ([.ref a, .int x]) ++ List.replicate (2 - (lg_sl ([.ref a, .int x])).length) Slot.unset).toArray = ls at hl ⊢
  have hl : lv_has ls 2 [(0, .ref a), (1, .int x)] := hl
  refine lv_iload_n hx hb dX2_canHold_0 rfl (lv_at hl 1 rfl) ?_
  refine lv_if_lt (tgt := 17) hx hb dX2_canHold_1 (by decide) (fun c_1 => ?_) (fun c_1 => ?_)
  · refine lv_iconst (v := nI 0) hx hb dX2_canHold_17 zki_0 ?_
    refine zt (show nI 0 = bI false from rfl) ?_
    exact W.zret (ty := .boolean) hx hb hr (z_narB _) (fun t ht _ => ⟨_, rfl, (congrArg bI (inB_f (by first | exact Or.inr c_10 | exact Or.inl c_1)).symm), ht⟩) (fun _ h => nomatch h) dX2_canHold_18
  · refine lv_iload_n hx hb dX2_canHold_4 rfl (lv_at hl 1 rfl) ?_
    refine lv_aload_n hx hb dX2_canHold_5 rfl (lv_at hl 0 rfl) ?_
    refine va_get (D := D) (ci := 4) (v := .ref h) (C := RX2) (T := TX2) (N := 1) hx hb hts nX2_canHold_inX2 hown hK hP 0 rfl rfl 0 (by decide) (hts (.fieldLink RX2 9 "Gamefield$NumberSet" "holds" "[Z") (by decide +kernel)) (fun _ h9 => h9) rfl dX2_canHold_6 ?_
    refine va_alen (v := nI 256) hx hb hK hP 1 0 rfl rfl rfl dX2_canHold_9 ?_
    refine lv_icmp_ge (tgt := 17) hx hb dX2_canHold_10 (by decide) (fun c_10 => ?_) (fun c_10 => ?_)
    · refine lv_iconst (v := nI 0) hx hb dX2_canHold_17 zki_0 ?_
      refine zt (show nI 0 = bI false from rfl) ?_
      exact W.zret (ty := .boolean) hx hb hr (z_narB _) (fun t ht _ => ⟨_, rfl, (congrArg bI (inB_f (by first | exact Or.inr c_10 | exact Or.inl c_1)).symm), ht⟩) (fun _ h => nomatch h) dX2_canHold_18
    · refine lv_iconst (v := nI 1) hx hb dX2_canHold_13 zki_1 ?_
      refine lv_goto (tgt := 18) hx hb dX2_canHold_14 (by decide) ?_
      refine zt (show nI 1 = bI true from rfl) ?_
      exact W.zret (ty := .boolean) hx hb hr (z_narB _) (fun t ht _ => ⟨_, rfl, (congrArg bI (inB_t c_1 c_10).symm), ht⟩) (fun _ h => nomatch h) dX2_canHold_18
abbrev rm_c_X2_contains : Room := { frames := 1, cells := 0, slots := 0, locals := 21 }
abbrev q_c_X2_contains (D : va_G) (a : Nat) (h : Nat) (cZ : ClassId) (f : Nat → Bool) (n : Nat) : Array Value → State → Outcome → State → Prop := vp_Si (fun r => r = (bI (f n)))
set_option maxHeartbeats 4000000 in
set_option maxRecDepth 100000 in
theorem c_X2_contains (l : Launch) (D : va_G) (a : Nat) (h : Nat) (cZ : ClassId) (f : Nat → Bool) (n : Nat) (hn : n < 256) : Met l yX2_contains wsX2_contains rm_c_X2_contains (va_Pc [.ref a, .int (nI n)] (fun U => va_P D vwCl [(a, .inr (4, [.ref h])), (h, .inl (cZ, 256, .inl (aB f)))] U.heap ∧ va_K D vwCl [(cZ, .boolean)] U)) (q_c_X2_contains D a h cZ f n) 0 0 (fun _ => False) := by
  refine Met.ofW (cc := cX2_contains) (maxL := 2) (ret := (some .boolean)) (by decide) rfl ?_
  intro p e s m args below meth c s₁ B hml hv
  obtain ⟨hargs, hP, hK⟩ := hv
  have hx := B.exec
  have hb := B.bytes
  have hr := B.returns
  have hts := atoms_spec (ws := wsX2_contains) B.pre
  have hown : s.vm.findClass RX2 = some m.cls := findClass_of_methodNamed B.named
  have hlocks := B.notSynchronized
  have hl := lv_entry ([.ref a, .int (nI n)]) (n := 2) (Nat.le_of_ble_eq_true rfl)
  refine W.eq (g2 := F0 m 0 (lg_sl ([.ref a, .int (nI n)]) ++ List.replicate (2 - (lg_sl ([.ref a, .int (nI n)])).length) Slot.unset).toArray []) (by rw [hargs]; exact lg_entry_eq _ _ _) ?_
  generalize (lg_sl ([.ref a, .int (nI n)]) ++ List.replicate (2 - (lg_sl ([.ref a, .int (nI n)])).length) Slot.unset).toArray = ls at hl ⊢
  have hl : lv_has ls 2 [(0, .ref a), (1, .int (nI n))] := hl
  refine lv_aload_n hx hb dX2_contains_0 rfl (lv_at hl 0 rfl) ?_
  refine lv_iload_n hx hb dX2_contains_1 rfl (lv_at hl 1 rfl) ?_
  refine z_ci (va_runV (As := [.int (nI n)]) (rest := []) ⟨hx, hb, hml, hown, hts⟩ (c_X2_canHold l D a h cZ f n (by omega)) (cwV 1 hts gX2_contains_X2_canHold rfl rfl rfl (by decide +kernel) ⟨Nat.le_of_ble_eq_true rfl, Nat.le_of_ble_eq_true rfl⟩) ⟨(z_fb1), va_recv hK hP (ci := 4) (q0 := 0) rfl rfl, fun U hU hW => ⟨rfl, by rw [hU]; exact hP, va_K.moved hW.alike hK⟩⟩ rfl rfl hl.1 rfl (lv_room (Nat.le_of_ble_eq_true rfl)) dX2_contains_2 ⟨Nat.le_of_ble_eq_true rfl, Nat.le_of_ble_eq_true rfl⟩) (fun r2 e2 => ?_)
  subst e2
  refine z_beq (tgt := 21) hx hb dX2_contains_5 (by decide) (fun c_5 => absurd (of_decide_eq_false c_5) (by omega)) (fun c_5 => ?_)
  refine lv_aload_n hx hb dX2_contains_8 rfl (lv_at hl 0 rfl) ?_
  refine va_get (D := D) (ci := 4) (v := .ref h) (C := RX2) (T := TX2) (N := 1) hx hb hts nX2_contains_inX2 hown hK hP 0 rfl rfl 0 (by decide) (hts (.fieldLink RX2 9 "Gamefield$NumberSet" "holds" "[Z") (by decide +kernel)) (fun _ h9 => h9) rfl dX2_contains_9 ?_
  refine lv_iload_n hx hb dX2_contains_12 rfl (lv_at hl 1 rfl) ?_
  refine z_zald hx hb hK hP 1 0 rfl rfl (by omega) (by decide) dX2_contains_13 ?_
  refine z_beq (tgt := 21) hx hb dX2_contains_14 (by decide) (fun c_14 => ?_) (fun c_14 => ?_)
  · refine lv_iconst (v := nI 0) hx hb dX2_contains_21 zki_0 ?_
    refine zt (show nI 0 = bI false from rfl) ?_
    exact W.zret (ty := .boolean) hx hb hr (z_narB _) (fun t ht _ => ⟨_, rfl, (congrArg bI (by rw [c_14])), ht⟩) (fun _ h => nomatch h) dX2_contains_22
  · refine lv_iconst (v := nI 1) hx hb dX2_contains_17 zki_1 ?_
    refine lv_goto (tgt := 22) hx hb dX2_contains_18 (by decide) ?_
    refine zt (show nI 1 = bI true from rfl) ?_
    exact W.zret (ty := .boolean) hx hb hr (z_narB _) (fun t ht _ => ⟨_, rfl, (congrArg bI (by rw [c_14])), ht⟩) (fun _ h => nomatch h) dX2_contains_22
abbrev rm_c_X2_contains_any : Room := { frames := 1, cells := 0, slots := 0, locals := 21 }
abbrev q_c_X2_contains_any (D : va_G) (a : Nat) (h : Nat) (cZ : ClassId) (f : Nat → Bool) (x : Int32) : Array Value → State → Outcome → State → Prop := vp_Si (fun r => r = (bI (ixB f x)))
set_option maxHeartbeats 4000000 in
set_option maxRecDepth 100000 in
theorem c_X2_contains_any (l : Launch) (D : va_G) (a : Nat) (h : Nat) (cZ : ClassId) (f : Nat → Bool) (x : Int32) : Met l yX2_contains wsX2_contains rm_c_X2_contains_any (va_Pc [.ref a, .int x] (fun U => va_P D vwCl [(a, .inr (4, [.ref h])), (h, .inl (cZ, 256, .inl (aB f)))] U.heap ∧ va_K D vwCl [(cZ, .boolean)] U)) (q_c_X2_contains_any D a h cZ f x) 0 0 (fun _ => False) := by
  refine Met.ofW (cc := cX2_contains) (maxL := 2) (ret := (some .boolean)) (by decide) rfl ?_
  intro p e s m args below meth c s₁ B hml hv
  obtain ⟨hargs, hP, hK⟩ := hv
  have hx := B.exec
  have hb := B.bytes
  have hr := B.returns
  have hts := atoms_spec (ws := wsX2_contains) B.pre
  have hown : s.vm.findClass RX2 = some m.cls := findClass_of_methodNamed B.named
  have hlocks := B.notSynchronized
  have hl := lv_entry ([.ref a, .int x]) (n := 2) (Nat.le_of_ble_eq_true rfl)
  refine W.eq (g2 := F0 m 0 (lg_sl ([.ref a, .int x]) ++ List.replicate (2 - (lg_sl ([.ref a, .int x])).length) Slot.unset).toArray []) (by rw [hargs]; exact lg_entry_eq _ _ _) ?_
  generalize (lg_sl ([.ref a, .int x]) ++ List.replicate (2 - (lg_sl ([.ref a, .int x])).length) Slot.unset).toArray = ls at hl ⊢
  have hl : lv_has ls 2 [(0, .ref a), (1, .int x)] := hl
  refine lv_aload_n hx hb dX2_contains_0 rfl (lv_at hl 0 rfl) ?_
  refine lv_iload_n hx hb dX2_contains_1 rfl (lv_at hl 1 rfl) ?_
  refine z_ci (va_runV (As := [.int x]) (rest := []) ⟨hx, hb, hml, hown, hts⟩ (c_X2_canHold_any l D a h cZ f x ) (cwV 1 hts gX2_contains_X2_canHold rfl rfl rfl (by decide +kernel) ⟨Nat.le_of_ble_eq_true rfl, Nat.le_of_ble_eq_true rfl⟩) ⟨(z_fb1), va_recv hK hP (ci := 4) (q0 := 0) rfl rfl, fun U hU hW => ⟨rfl, by rw [hU]; exact hP, va_K.moved hW.alike hK⟩⟩ rfl rfl hl.1 rfl (lv_room (Nat.le_of_ble_eq_true rfl)) dX2_contains_2 ⟨Nat.le_of_ble_eq_true rfl, Nat.le_of_ble_eq_true rfl⟩) (fun r2 e2 => ?_)
  subst e2
  refine z_beq (tgt := 21) hx hb dX2_contains_5 (by decide) (fun c_5 => ?_) (fun c_5 => ?_)
  · refine lv_iconst (v := nI 0) hx hb dX2_contains_21 zki_0 ?_
    refine zt (show nI 0 = bI false from rfl) ?_
    exact W.zret (ty := .boolean) hx hb hr (z_narB _) (fun t ht _ => ⟨_, rfl, (congrArg bI (by rw [ixB_f c_5])), ht⟩) (fun _ h => nomatch h) dX2_contains_22
  · obtain ⟨j, hj, rfl⟩ := inB_of c_5
    refine lv_aload_n hx hb dX2_contains_8 rfl (lv_at hl 0 rfl) ?_
    refine va_get (D := D) (ci := 4) (v := .ref h) (C := RX2) (T := TX2) (N := 1) hx hb hts nX2_contains_inX2 hown hK hP 0 rfl rfl 0 (by decide) (hts (.fieldLink RX2 9 "Gamefield$NumberSet" "holds" "[Z") (by decide +kernel)) (fun _ h9 => h9) rfl dX2_contains_9 ?_
    refine lv_iload_n hx hb dX2_contains_12 rfl (lv_at hl 1 rfl) ?_
    refine z_zald hx hb hK hP 1 0 rfl rfl (by omega) (by decide) dX2_contains_13 ?_
    refine z_beq (tgt := 21) hx hb dX2_contains_14 (by decide) (fun c_14 => ?_) (fun c_14 => ?_)
    · refine lv_iconst (v := nI 0) hx hb dX2_contains_21 zki_0 ?_
      refine zt (show nI 0 = bI false from rfl) ?_
      exact W.zret (ty := .boolean) hx hb hr (z_narB _) (fun t ht _ => ⟨_, rfl, (congrArg bI (by rw [ixB_n hj, c_14])), ht⟩) (fun _ h => nomatch h) dX2_contains_22
    · refine lv_iconst (v := nI 1) hx hb dX2_contains_17 zki_1 ?_
      refine lv_goto (tgt := 22) hx hb dX2_contains_18 (by decide) ?_
      refine zt (show nI 1 = bI true from rfl) ?_
      exact W.zret (ty := .boolean) hx hb hr (z_narB _) (fun t ht _ => ⟨_, rfl, (congrArg bI (by rw [ixB_n hj, c_14])), ht⟩) (fun _ h => nomatch h) dX2_contains_22
abbrev rm_c_X2_add : Room := { frames := 1, cells := 0, slots := 0, locals := 21 }
abbrev q_c_X2_add (D : va_G) (sz : Nat) (a : Nat) (h : Nat) (cZ : ClassId) (f : Nat → Bool) (n : Nat) : Array Value → State → Outcome → State → Prop := va_Qi (fun r (_ : Unit) => r = (bI (!f n))) (fun (_ : Unit) t => va_P D vwCl [(a, .inr (4, [.ref h])), (h, .inl (cZ, 256, .inl (aB (va_up f n true))))] t.heap ∧ va_K D vwCl [(cZ, .boolean)] t ∧ va_D (va_A [(a, .inr (4, [.ref h])), (h, .inl (cZ, 256, .inl (aB f)))] sz) [(a, .inr (4, [.ref h])), (h, .inl (cZ, 256, .inl (aB (va_up f n true))))]) (va_A [(a, .inr (4, [.ref h])), (h, .inl (cZ, 256, .inl (aB f)))] sz)
set_option maxHeartbeats 4000000 in
set_option maxRecDepth 100000 in
theorem c_X2_add (l : Launch) (D : va_G) (sz : Nat) (a : Nat) (h : Nat) (cZ : ClassId) (f : Nat → Bool) (n : Nat) (hn : n < 256) : Met l yX2_add wsX2_add rm_c_X2_add (va_Pc [.ref a, .int (nI n)] (fun U => U.heap.size = sz ∧ va_P D vwCl [(a, .inr (4, [.ref h])), (h, .inl (cZ, 256, .inl (aB f)))] U.heap ∧ va_K D vwCl [(cZ, .boolean)] U ∧ va_D (fun _ => True) [(a, .inr (4, [.ref h])), (h, .inl (cZ, 256, .inl (aB f)))])) (q_c_X2_add D sz a h cZ f n) 0 0 (va_A [(a, .inr (4, [.ref h])), (h, .inl (cZ, 256, .inl (aB f)))] sz) := by
  refine Met.ofW (cc := cX2_add) (maxL := 2) (ret := (some .boolean)) (by decide) rfl ?_
  intro p e s m args below meth c s₁ B hml hv
  obtain ⟨hargs, hsz, hP, hK, hD0⟩ := hv
  have hx := B.exec
  have hb := B.bytes
  have hr := B.returns
  have hts := atoms_spec (ws := wsX2_add) B.pre
  have hown : s.vm.findClass RX2 = some m.cls := findClass_of_methodNamed B.named
  have hlocks := B.notSynchronized
  subst hsz
  have hD := hD0.self (sz := s.heap.size)
  generalize hAe : va_A [(a, .inr (4, [.ref h])), (h, .inl (cZ, 256, .inl (aB f)))] s.heap.size = A at hD ⊢
  have hA : ∀ q : Nat, s.heap.size ≤ q → A q := fun q h => by rw [← hAe]; exact Or.inr h
  have hS : va_S A s.heap s.heap [] := va_S.rf
  have hl := lv_entry ([.ref a, .int (nI n)]) (n := 2) (Nat.le_of_ble_eq_true rfl)
  refine W.eq (g2 := F0 m 0 (lg_sl ([.ref a, .int (nI n)]) ++ List.replicate (2 - (lg_sl ([.ref a, .int (nI n)])).length) Slot.unset).toArray []) (by rw [hargs]; exact lg_entry_eq _ _ _) ?_
  generalize (lg_sl ([.ref a, .int (nI n)]) ++ List.replicate (2 - (lg_sl ([.ref a, .int (nI n)])).length) Slot.unset).toArray = ls at hl ⊢
  have hl : lv_has ls 2 [(0, .ref a), (1, .int (nI n))] := hl
  refine lv_aload_n hx hb dX2_add_0 rfl (lv_at hl 0 rfl) ?_
  refine lv_iload_n hx hb dX2_add_1 rfl (lv_at hl 1 rfl) ?_
  refine z_ci (va_runV (As := [.int (nI n)]) (rest := []) ⟨hx, hb, hml, hown, hts⟩ (c_X2_canHold l D a h cZ f n (by omega)) (cwV 1 hts gX2_add_X2_canHold rfl rfl rfl (by decide +kernel) ⟨Nat.le_of_ble_eq_true rfl, Nat.le_of_ble_eq_true rfl⟩) ⟨(z_fb1), va_recv hK hP (ci := 4) (q0 := 0) rfl rfl, fun U hU hW => ⟨rfl, by rw [hU]; exact hP, va_K.moved hW.alike hK⟩⟩ rfl rfl hl.1 rfl (lv_room (Nat.le_of_ble_eq_true rfl)) dX2_add_2 ⟨Nat.le_of_ble_eq_true rfl, Nat.le_of_ble_eq_true rfl⟩) (fun r2 e2 => ?_)
  subst e2
  refine z_beq (tgt := 17) hx hb dX2_add_5 (by decide) (fun c_5 => absurd (of_decide_eq_false c_5) (by omega)) (fun c_5 => ?_)
  refine lv_aload_n hx hb dX2_add_8 rfl (lv_at hl 0 rfl) ?_
  refine va_get (D := D) (ci := 4) (v := .ref h) (C := RX2) (T := TX2) (N := 1) hx hb hts nX2_add_inX2 hown hK hP 0 rfl rfl 0 (by decide) (hts (.fieldLink RX2 9 "Gamefield$NumberSet" "holds" "[Z") (by decide +kernel)) (fun _ h9 => h9) rfl dX2_add_9 ?_
  refine lv_iload_n hx hb dX2_add_12 rfl (lv_at hl 1 rfl) ?_
  refine z_zald hx hb hK hP 1 0 rfl rfl (by omega) (by decide) dX2_add_13 ?_
  refine z_beq (tgt := 19) hx hb dX2_add_14 (by decide) (fun c_14 => ?_) (fun c_14 => ?_)
  · refine lv_aload_n hx hb dX2_add_19 rfl (lv_at hl 0 rfl) ?_
    refine va_get (D := D) (ci := 4) (v := .ref h) (C := RX2) (T := TX2) (N := 1) hx hb hts nX2_add_inX2 hown hK hP 0 rfl rfl 0 (by decide) (hts (.fieldLink RX2 9 "Gamefield$NumberSet" "holds" "[Z") (by decide +kernel)) (fun _ h9 => h9) rfl dX2_add_20 ?_
    refine lv_iload_n hx hb dX2_add_23 rfl (lv_at hl 1 rfl) ?_
    refine lv_iconst (v := nI 1) hx hb dX2_add_24 zki_1 ?_
    refine zt (show nI 1 = bI true from rfl) ?_
    refine z_zast hx hb hK hP hD hS 1 0 rfl rfl (by omega) (by decide) dX2_add_25 (fun H locs hP hD hS => ?_)
    have hP : va_P D vwCl [(a, .inr (4, [.ref h])), (h, .inl (cZ, 256, .inl (aB (va_up f n true))))] H := hP
    have hD : va_D A [(a, .inr (4, [.ref h])), (h, .inl (cZ, 256, .inl (aB (va_up f n true))))] := hD
    refine lv_iconst (v := nI 1) hx hb dX2_add_26 zki_1 ?_
    have hP9 := hP.sub (ws' := [(a, .inr (4, [.ref h])), (h, .inl (cZ, 256, .inl (aB (va_up f n true))))]) [0, 1] rfl
    have hD9 := hD.sub (ws' := [(a, .inr (4, [.ref h])), (h, .inl (cZ, 256, .inl (aB (va_up f n true))))]) [0, 1] (by decide) rfl
    have hK9 := hK.sub (tys' := [(cZ, .boolean)]) [0] rfl
    subst hAe
    refine W.widen (k := 0) (n := 0) (Nat.le_of_ble_eq_true rfl) (Nat.le_of_ble_eq_true rfl) ?_
    refine zt (show nI 1 = bI true from rfl) ?_
    exact W.zret (ty := .boolean) hx hb hr (z_narB _) (fun t ht hW => ⟨⟨_, (), rfl, (congrArg bI (by rw [c_14]; rfl)), by rw [ht]; exact hP9, va_K.moved hW.alike hK9, hD9⟩, hS.F ht⟩) hS.2.2 dX2_add_27
  · refine lv_iconst (v := nI 0) hx hb dX2_add_17 zki_0 ?_
    have hP9 := hP.sub (ws' := [(a, .inr (4, [.ref h])), (h, .inl (cZ, 256, .inl (aB f)))]) [0, 1] rfl
    have hD9 := hD.sub (ws' := [(a, .inr (4, [.ref h])), (h, .inl (cZ, 256, .inl (aB f)))]) [0, 1] (by decide) rfl
    rw [← va_up_same c_14] at hP9 hD9
    have hK9 := hK.sub (tys' := [(cZ, .boolean)]) [0] rfl
    subst hAe
    refine W.widen (k := 0) (n := 0) (Nat.le_of_ble_eq_true rfl) (Nat.le_of_ble_eq_true rfl) ?_
    refine zt (show nI 0 = bI false from rfl) ?_
    exact W.zret (ty := .boolean) hx hb hr (z_narB _) (fun t ht hW => ⟨⟨_, (), rfl, (congrArg bI (by rw [c_14]; rfl)), by rw [ht]; exact hP9, va_K.moved hW.alike hK9, hD9⟩, hS.F ht⟩) hS.2.2 dX2_add_18
abbrev rm_c_X2_remove : Room := { frames := 2, cells := 0, slots := 0, locals := 42 }
abbrev q_c_X2_remove (D : va_G) (sz : Nat) (a : Nat) (h : Nat) (cZ : ClassId) (f : Nat → Bool) (x : Int32) : Array Value → State → Outcome → State → Prop := va_Qi (fun r (_ : Unit) => r = (bI (ixB f x))) (fun (_ : Unit) t => va_P D vwCl [(a, .inr (4, [.ref h])), (h, .inl (cZ, 256, .inl (aB (rmB f x))))] t.heap ∧ va_K D vwCl [(cZ, .boolean)] t ∧ va_D (va_A [(a, .inr (4, [.ref h])), (h, .inl (cZ, 256, .inl (aB f)))] sz) [(a, .inr (4, [.ref h])), (h, .inl (cZ, 256, .inl (aB (rmB f x))))]) (va_A [(a, .inr (4, [.ref h])), (h, .inl (cZ, 256, .inl (aB f)))] sz)
set_option maxHeartbeats 4000000 in
set_option maxRecDepth 100000 in
theorem c_X2_remove (l : Launch) (D : va_G) (sz : Nat) (a : Nat) (h : Nat) (cZ : ClassId) (f : Nat → Bool) (x : Int32) : Met l yX2_remove wsX2_remove rm_c_X2_remove (va_Pc [.ref a, .int x] (fun U => U.heap.size = sz ∧ va_P D vwCl [(a, .inr (4, [.ref h])), (h, .inl (cZ, 256, .inl (aB f)))] U.heap ∧ va_K D vwCl [(cZ, .boolean)] U ∧ va_D (fun _ => True) [(a, .inr (4, [.ref h])), (h, .inl (cZ, 256, .inl (aB f)))])) (q_c_X2_remove D sz a h cZ f x) 0 0 (va_A [(a, .inr (4, [.ref h])), (h, .inl (cZ, 256, .inl (aB f)))] sz) := by
  refine Met.ofW (cc := cX2_remove) (maxL := 2) (ret := (some .boolean)) (by decide) rfl ?_
  intro p e s m args below meth c s₁ B hml hv
  obtain ⟨hargs, hsz, hP, hK, hD0⟩ := hv
  have hx := B.exec
  have hb := B.bytes
  have hr := B.returns
  have hts := atoms_spec (ws := wsX2_remove) B.pre
  have hown : s.vm.findClass RX2 = some m.cls := findClass_of_methodNamed B.named
  have hlocks := B.notSynchronized
  subst hsz
  have hD := hD0.self (sz := s.heap.size)
  generalize hAe : va_A [(a, .inr (4, [.ref h])), (h, .inl (cZ, 256, .inl (aB f)))] s.heap.size = A at hD ⊢
  have hA : ∀ q : Nat, s.heap.size ≤ q → A q := fun q h => by rw [← hAe]; exact Or.inr h
  have hS : va_S A s.heap s.heap [] := va_S.rf
  have hl := lv_entry ([.ref a, .int x]) (n := 2) (Nat.le_of_ble_eq_true rfl)
  refine W.eq (g2 := F0 m 0 (lg_sl ([.ref a, .int x]) ++ List.replicate (2 - (lg_sl ([.ref a, .int x])).length) Slot.unset).toArray []) (by rw [hargs]; exact lg_entry_eq _ _ _) ?_
  generalize (lg_sl ([.ref a, .int x]) ++ List.replicate (2 - (lg_sl ([.ref a, .int x])).length) Slot.unset).toArray = ls at hl ⊢
  have hl : lv_has ls 2 [(0, .ref a), (1, .int x)] := hl
  refine lv_aload_n hx hb dX2_remove_0 rfl (lv_at hl 0 rfl) ?_
  refine lv_iload_n hx hb dX2_remove_1 rfl (lv_at hl 1 rfl) ?_
  refine z_ci (va_runV (As := [.int x]) (rest := []) ⟨hx, hb, hml, hown, hts⟩ (c_X2_contains_any l D a h cZ f x ) (cwV 1 hts gX2_remove_X2_contains rfl rfl rfl (by decide +kernel) ⟨Nat.le_of_ble_eq_true rfl, Nat.le_of_ble_eq_true rfl⟩) ⟨(z_fb1), va_recv hK hP (ci := 4) (q0 := 0) rfl rfl, fun U hU hW => ⟨rfl, by rw [hU]; exact hP, va_K.moved hW.alike hK⟩⟩ rfl rfl hl.1 rfl (lv_room (Nat.le_of_ble_eq_true rfl)) dX2_remove_2 ⟨Nat.le_of_ble_eq_true rfl, Nat.le_of_ble_eq_true rfl⟩) (fun r2 e2 => ?_)
  subst e2
  refine z_bne (tgt := 10) hx hb dX2_remove_5 (by decide) (fun c_5 => ?_) (fun c_5 => ?_)
  · obtain ⟨j, hj, rfl⟩ := ixB_of c_5
    refine lv_aload_n hx hb dX2_remove_10 rfl (lv_at hl 0 rfl) ?_
    refine va_get (D := D) (ci := 4) (v := .ref h) (C := RX2) (T := TX2) (N := 1) hx hb hts nX2_remove_inX2 hown hK hP 0 rfl rfl 0 (by decide) (hts (.fieldLink RX2 9 "Gamefield$NumberSet" "holds" "[Z") (by decide +kernel)) (fun _ h9 => h9) rfl dX2_remove_11 ?_
    refine lv_iload_n hx hb dX2_remove_14 rfl (lv_at hl 1 rfl) ?_
    refine lv_iconst (v := nI 0) hx hb dX2_remove_15 zki_0 ?_
    refine zt (show nI 0 = bI false from rfl) ?_
    refine z_zast hx hb hK hP hD hS 1 0 rfl rfl (by omega) (by decide) dX2_remove_16 (fun H locs hP hD hS => ?_)
    have hP : va_P D vwCl [(a, .inr (4, [.ref h])), (h, .inl (cZ, 256, .inl (aB (va_up f j false))))] H := hP
    have hD : va_D A [(a, .inr (4, [.ref h])), (h, .inl (cZ, 256, .inl (aB (va_up f j false))))] := hD
    refine lv_iconst (v := nI 1) hx hb dX2_remove_17 zki_1 ?_
    have hP9 := hP.sub (ws' := [(a, .inr (4, [.ref h])), (h, .inl (cZ, 256, .inl (aB (va_up f j false))))]) [0, 1] rfl
    have hD9 := hD.sub (ws' := [(a, .inr (4, [.ref h])), (h, .inl (cZ, 256, .inl (aB (va_up f j false))))]) [0, 1] (by decide) rfl
    rw [← rmB_t hj c_5] at hP9 hD9
    have hK9 := hK.sub (tys' := [(cZ, .boolean)]) [0] rfl
    subst hAe
    refine W.widen (k := 0) (n := 0) (Nat.le_of_ble_eq_true rfl) (Nat.le_of_ble_eq_true rfl) ?_
    refine zt (show nI 1 = bI true from rfl) ?_
    exact W.zret (ty := .boolean) hx hb hr (z_narB _) (fun t ht hW => ⟨⟨_, (), rfl, (congrArg bI (by rw [c_5])), by rw [ht]; exact hP9, va_K.moved hW.alike hK9, hD9⟩, hS.F ht⟩) hS.2.2 dX2_remove_18
  · refine lv_iconst (v := nI 0) hx hb dX2_remove_8 zki_0 ?_
    have hP9 := hP.sub (ws' := [(a, .inr (4, [.ref h])), (h, .inl (cZ, 256, .inl (aB f)))]) [0, 1] rfl
    have hD9 := hD.sub (ws' := [(a, .inr (4, [.ref h])), (h, .inl (cZ, 256, .inl (aB f)))]) [0, 1] (by decide) rfl
    rw [← rmB_f c_5] at hP9 hD9
    have hK9 := hK.sub (tys' := [(cZ, .boolean)]) [0] rfl
    subst hAe
    refine W.widen (k := 0) (n := 0) (Nat.le_of_ble_eq_true rfl) (Nat.le_of_ble_eq_true rfl) ?_
    refine zt (show nI 0 = bI false from rfl) ?_
    exact W.zret (ty := .boolean) hx hb hr (z_narB _) (fun t ht hW => ⟨⟨_, (), rfl, (congrArg bI (by rw [c_5])), by rw [ht]; exact hP9, va_K.moved hW.alike hK9, hD9⟩, hS.F ht⟩) hS.2.2 dX2_remove_9
abbrev rm_c_X2_count : Room := { frames := 0, cells := 0, slots := 0, locals := 0 }
abbrev q_c_X2_count (D : va_G) (a : Nat) (h : Nat) (cZ : ClassId) (f : Nat → Bool) : Array Value → State → Outcome → State → Prop := vp_Si (fun r => r = (nI (cn f 256)))
set_option maxHeartbeats 4000000 in
set_option maxRecDepth 100000 in
theorem c_X2_count (l : Launch) (D : va_G) (a : Nat) (h : Nat) (cZ : ClassId) (f : Nat → Bool) : Met l yX2_count wsX2_count rm_c_X2_count (va_Pc [.ref a] (fun U => va_P D vwCl [(a, .inr (4, [.ref h])), (h, .inl (cZ, 256, .inl (aB f)))] U.heap ∧ va_K D vwCl [(cZ, .boolean)] U)) (q_c_X2_count D a h cZ f) 0 0 (fun _ => False) := by
  refine Met.ofW (cc := cX2_count) (maxL := 6) (ret := (some .int)) (by decide) rfl ?_
  intro p e s m args below meth c s₁ B hml hv
  obtain ⟨hargs, hP, hK⟩ := hv
  have hx := B.exec
  have hb := B.bytes
  have hr := B.returns
  have hts := atoms_spec (ws := wsX2_count) B.pre
  have hown : s.vm.findClass RX2 = some m.cls := findClass_of_methodNamed B.named
  have hlocks := B.notSynchronized
  have hl := lv_entry ([.ref a]) (n := 6) (Nat.le_of_ble_eq_true rfl)
  refine W.eq (g2 := F0 m 0 (lg_sl ([.ref a]) ++ List.replicate (6 - (lg_sl ([.ref a])).length) Slot.unset).toArray []) (by rw [hargs]; exact lg_entry_eq _ _ _) ?_
  generalize (lg_sl ([.ref a]) ++ List.replicate (6 - (lg_sl ([.ref a])).length) Slot.unset).toArray = ls at hl ⊢
  have hl : lv_has ls 6 [(0, .ref a)] := hl
  refine lv_iconst (v := nI 0) hx hb dX2_count_0 zki_0 ?_
  refine lv_istore_n (lv' := [(1, .int (nI 0)), (0, .ref a)]) hx hb dX2_count_1 rfl hl (by decide) rfl (fun ls hl => ?_)
  refine lv_aload_n hx hb dX2_count_2 rfl (lv_at hl 1 rfl) ?_
  refine va_get (D := D) (ci := 4) (v := .ref h) (C := RX2) (T := TX2) (N := 1) hx hb hts nX2_count_inX2 hown hK hP 0 rfl rfl 0 (by decide) (hts (.fieldLink RX2 9 "Gamefield$NumberSet" "holds" "[Z") (by decide +kernel)) (fun _ h9 => h9) rfl dX2_count_3 ?_
  refine lv_astore_n (lv' := [(2, .ref h), (1, .int (nI 0)), (0, .ref a)]) hx hb dX2_count_6 rfl hl (by decide) rfl (fun ls hl => ?_)
  refine lv_aload_n hx hb dX2_count_7 rfl (lv_at hl 0 rfl) ?_
  refine va_alen (v := nI 256) hx hb hK hP 1 0 rfl rfl rfl dX2_count_8 ?_
  refine lv_istore_n (lv' := [(3, .int (nI 256)), (2, .ref h), (1, .int (nI 0)), (0, .ref a)]) hx hb dX2_count_9 rfl hl (by decide) rfl (fun ls hl => ?_)
  refine lv_iconst (v := nI 0) hx hb dX2_count_10 zki_0 ?_
  refine lv_istore (lv' := [(4, .int (nI 0)), (3, .int (nI 256)), (2, .ref h), (1, .int (nI 0)), (0, .ref a)]) hx hb dX2_count_11 hl (by decide) rfl (fun ls hl => ?_)
  have cut_13 : ∀ (n : Nat) (i : Nat) (hi : i ≤ 256) (hn9 : 256 - i < n) (ls : Array Slot) (hl : lv_has ls 6 [(0, .ref a), (1, .int (nI (cn f i))), (2, .ref h), (3, .int (nI 256)), (4, .int (nI i))]), W p l e (headSpec wsX2_count rm_c_X2_count).room s m args below meth c s.heap [] 0 0 (MQ below (q_c_X2_count D a h cZ f) args s 0 0 (fun _ => False)) (F0 m 13 ls []) := by
    intro n
    induction n with
    | zero => intro i hi hn9; exact absurd hn9 (Nat.not_lt_zero _)
    | succ n ih_13 =>
      intro i hi hn9 ls hl
      refine lv_iload hx hb dX2_count_13 (lv_at hl 4 rfl) ?_
      refine lv_iload_n hx hb dX2_count_15 rfl (lv_at hl 3 rfl) ?_
      refine z_cge (tgt := 39) hx hb (by omega) (by omega) dX2_count_16 (by decide) (fun c_16 => ?_) (fun c_16 => ?_)
      · refine lv_iload_n hx hb dX2_count_39 rfl (lv_at hl 1 rfl) ?_
        exact W.iret hx hb hr (fun t ht _ => ⟨_, rfl, (by rw [show i = 256 by omega]), ht⟩) (fun _ h => nomatch h) dX2_count_40
      · have := cn_le f i
        refine lv_aload_n hx hb dX2_count_19 rfl (lv_at hl 2 rfl) ?_
        refine lv_iload hx hb dX2_count_20 (lv_at hl 4 rfl) ?_
        refine z_zald hx hb hK hP 1 0 rfl rfl (by omega) (by decide) dX2_count_22 ?_
        refine lv_istore (lv' := [(5, .int (bI (f i))), (0, .ref a), (1, .int (nI (cn f i))), (2, .ref h), (3, .int (nI 256)), (4, .int (nI i))]) hx hb dX2_count_23 hl (by decide) rfl (fun ls hl => ?_)
        refine lv_iload hx hb dX2_count_25 (lv_at hl 0 rfl) ?_
        refine z_beq (tgt := 33) hx hb dX2_count_27 (by decide) (fun c_27 => ?_) (fun c_27 => ?_)
        · have e9 : cn f i = cn f (i + 1) := by rw [cn, c_27]; rfl
          refine lv_iinc (v := (nI (i + 1))) (lv' := [(4, .int (nI (i + 1))), (5, .int (bI (f i))), (0, .ref a), (1, .int (nI (cn f i))), (2, .ref h), (3, .int (nI 256))]) hx hb dX2_count_33 hl (k := 5) rfl (z_inc i 1) (by decide) rfl (fun ls hl => ?_)
          refine lv_goto (tgt := 13) hx hb dX2_count_36 (by decide) ?_
          have hl : lv_has ls 6 [(4, .int (nI (i + 1))), (5, .int (bI (f i))), (0, .ref a), (1, .int (nI (cn f (i + 1)))), (2, .ref h), (3, .int (nI 256))] := Eq.mp (congrArg (fun z9 => lv_has ls 6 [(4, .int (nI (i + 1))), (5, .int (bI (f i))), (0, .ref a), (1, .int z9), (2, .ref h), (3, .int (nI 256))]) (congrArg nI (show cn f i = cn f (i + 1) from e9))) hl
          exact ih_13 (i + 1) (by omega) (by omega) ls (lv_sub hl [2, 3, 4, 5, 0] rfl)
        · have e9 : cn f i + 1 = cn f (i + 1) := by rw [cn, c_27]; rfl
          refine lv_iinc (v := (nI (cn f i + 1))) (lv' := [(1, .int (nI (cn f i + 1))), (5, .int (bI (f i))), (0, .ref a), (2, .ref h), (3, .int (nI 256)), (4, .int (nI i))]) hx hb dX2_count_30 hl (k := 2) rfl (z_inc (cn f i) 1) (by decide) rfl (fun ls hl => ?_)
          refine lv_iinc (v := (nI (i + 1))) (lv' := [(4, .int (nI (i + 1))), (1, .int (nI (cn f i + 1))), (5, .int (bI (f i))), (0, .ref a), (2, .ref h), (3, .int (nI 256))]) hx hb dX2_count_33 hl (k := 5) rfl (z_inc i 1) (by decide) rfl (fun ls hl => ?_)
          refine lv_goto (tgt := 13) hx hb dX2_count_36 (by decide) ?_
          have hl : lv_has ls 6 [(4, .int (nI (i + 1))), (1, .int (nI (cn f (i + 1)))), (5, .int (bI (f i))), (0, .ref a), (2, .ref h), (3, .int (nI 256))] := Eq.mp (congrArg (fun z9 => lv_has ls 6 [(4, .int (nI (i + 1))), (1, .int z9), (5, .int (bI (f i))), (0, .ref a), (2, .ref h), (3, .int (nI 256))]) (congrArg nI (show cn f i + 1 = cn f (i + 1) from e9))) hl
          exact ih_13 (i + 1) (by omega) (by omega) ls (lv_sub hl [3, 1, 4, 5, 0] rfl)
  have hl : lv_has ls 6 [(4, .int (nI 0)), (3, .int (nI 256)), (2, .ref h), (1, .int (nI (cn f 0))), (0, .ref a)] := Eq.mp (congrArg (fun z9 => lv_has ls 6 [(4, .int (nI 0)), (3, .int (nI 256)), (2, .ref h), (1, .int z9), (0, .ref a)]) (congrArg nI (show 0 = cn f 0 from rfl))) hl
  exact cut_13 ((256 - 0) + 1) 0 (by omega) (Nat.lt_succ_self _) ls (lv_sub hl [4, 3, 2, 1, 0] rfl)
abbrev rm_c_X2_numberBehind : Room := { frames := 0, cells := 0, slots := 0, locals := 0 }
abbrev q_c_X2_numberBehind (D : va_G) (a : Nat) (h : Nat) (cZ : ClassId) (f : Nat → Bool) (x : Int32) : Array Value → State → Outcome → State → Prop := vp_Si (fun r => r = (oI (nbk f x 256)))
set_option maxHeartbeats 4000000 in
set_option maxRecDepth 100000 in
theorem c_X2_numberBehind (l : Launch) (D : va_G) (a : Nat) (h : Nat) (cZ : ClassId) (f : Nat → Bool) (x : Int32) : Met l yX2_numberBehind wsX2_numberBehind rm_c_X2_numberBehind (va_Pc [.ref a, .int x] (fun U => va_P D vwCl [(a, .inr (4, [.ref h])), (h, .inl (cZ, 256, .inl (aB f)))] U.heap ∧ va_K D vwCl [(cZ, .boolean)] U)) (q_c_X2_numberBehind D a h cZ f x) 0 0 (fun _ => False) := by
  refine Met.ofW (cc := cX2_numberBehind) (maxL := 4) (ret := (some .int)) (by decide) rfl ?_
  intro p e s m args below meth c s₁ B hml hv
  obtain ⟨hargs, hP, hK⟩ := hv
  have hx := B.exec
  have hb := B.bytes
  have hr := B.returns
  have hts := atoms_spec (ws := wsX2_numberBehind) B.pre
  have hown : s.vm.findClass RX2 = some m.cls := findClass_of_methodNamed B.named
  have hlocks := B.notSynchronized
  have hl := lv_entry ([.ref a, .int x]) (n := 4) (Nat.le_of_ble_eq_true rfl)
  refine W.eq (g2 := F0 m 0 (lg_sl ([.ref a, .int x]) ++ List.replicate (4 - (lg_sl ([.ref a, .int x])).length) Slot.unset).toArray []) (by rw [hargs]; exact lg_entry_eq _ _ _) ?_
  generalize (lg_sl ([.ref a, .int x]) ++ List.replicate (4 - (lg_sl ([.ref a, .int x])).length) Slot.unset).toArray = ls at hl ⊢
  have hl : lv_has ls 4 [(0, .ref a), (1, .int x)] := hl
  refine lv_iconst (v := nI 0) hx hb dX2_numberBehind_0 zki_0 ?_
  refine lv_istore_n (lv' := [(2, .int (nI 0)), (0, .ref a), (1, .int x)]) hx hb dX2_numberBehind_1 rfl hl (by decide) rfl (fun ls hl => ?_)
  refine lv_iconst (v := nI 0) hx hb dX2_numberBehind_2 zki_0 ?_
  refine lv_istore_n (lv' := [(3, .int (nI 0)), (2, .int (nI 0)), (0, .ref a), (1, .int x)]) hx hb dX2_numberBehind_3 rfl hl (by decide) rfl (fun ls hl => ?_)
  have cut_4 : ∀ (n : Nat) (i : Nat) (hi : i ≤ 256) (hno : nbk f x i = none) (hn9 : 256 - i < n) (ls : Array Slot) (hl : lv_has ls 4 [(0, .ref a), (1, .int x), (2, .int (nI (cn f i))), (3, .int (nI i))]), W p l e (headSpec wsX2_numberBehind rm_c_X2_numberBehind).room s m args below meth c s.heap [] 0 0 (MQ below (q_c_X2_numberBehind D a h cZ f x) args s 0 0 (fun _ => False)) (F0 m 4 ls []) := by
    intro n
    induction n with
    | zero => intro i hi hno hn9; exact absurd hn9 (Nat.not_lt_zero _)
    | succ n ih_4 =>
      intro i hi hno hn9 ls hl
      refine lv_iload_n hx hb dX2_numberBehind_4 rfl (lv_at hl 3 rfl) ?_
      refine lv_aload_n hx hb dX2_numberBehind_5 rfl (lv_at hl 0 rfl) ?_
      refine va_get (D := D) (ci := 4) (v := .ref h) (C := RX2) (T := TX2) (N := 1) hx hb hts nX2_numberBehind_inX2 hown hK hP 0 rfl rfl 0 (by decide) (hts (.fieldLink RX2 9 "Gamefield$NumberSet" "holds" "[Z") (by decide +kernel)) (fun _ h9 => h9) rfl dX2_numberBehind_6 ?_
      refine va_alen (v := nI 256) hx hb hK hP 1 0 rfl rfl rfl dX2_numberBehind_9 ?_
      refine z_cge (tgt := 38) hx hb (by omega) (by omega) dX2_numberBehind_10 (by decide) (fun c_10 => ?_) (fun c_10 => ?_)
      · refine lv_iconst (v := (-1)) hx hb dX2_numberBehind_38 zki_m1 ?_
        exact W.iret hx hb hr (fun t ht _ => ⟨_, rfl, (by rw [show (256 : Nat) = i by omega, hno]; rfl), ht⟩) (fun _ h => nomatch h) dX2_numberBehind_39
      · have := cn_le f i
        refine lv_aload_n hx hb dX2_numberBehind_13 rfl (lv_at hl 0 rfl) ?_
        refine va_get (D := D) (ci := 4) (v := .ref h) (C := RX2) (T := TX2) (N := 1) hx hb hts nX2_numberBehind_inX2 hown hK hP 0 rfl rfl 0 (by decide) (hts (.fieldLink RX2 9 "Gamefield$NumberSet" "holds" "[Z") (by decide +kernel)) (fun _ h9 => h9) rfl dX2_numberBehind_14 ?_
        refine lv_iload_n hx hb dX2_numberBehind_17 rfl (lv_at hl 3 rfl) ?_
        refine z_zald hx hb hK hP 1 0 rfl rfl (by omega) (by decide) dX2_numberBehind_18 ?_
        refine z_beq (tgt := 32) hx hb dX2_numberBehind_19 (by decide) (fun c_19 => ?_) (fun c_19 => ?_)
        · have e9 : cn f i = cn f (i + 1) := by rw [cn, c_19]; rfl
          have h9 : nbk f x (i + 1) = none := by simp [nbk, hno, c_19]
          refine lv_iinc (v := (nI (i + 1))) (lv' := [(3, .int (nI (i + 1))), (0, .ref a), (1, .int x), (2, .int (nI (cn f i)))]) hx hb dX2_numberBehind_32 hl (k := 3) rfl (z_inc i 1) (by decide) rfl (fun ls hl => ?_)
          refine lv_goto (tgt := 4) hx hb dX2_numberBehind_35 (by decide) ?_
          have hl : lv_has ls 4 [(3, .int (nI (i + 1))), (0, .ref a), (1, .int x), (2, .int (nI (cn f (i + 1))))] := Eq.mp (congrArg (fun z9 => lv_has ls 4 [(3, .int (nI (i + 1))), (0, .ref a), (1, .int x), (2, .int z9)]) (congrArg nI (show cn f i = cn f (i + 1) from e9))) hl
          exact ih_4 (i + 1) (by omega) (h9) (by omega) ls (lv_sub hl [1, 2, 3, 0] rfl)
        · refine lv_iload_n hx hb dX2_numberBehind_22 rfl (lv_at hl 2 rfl) ?_
          refine lv_iload_n hx hb dX2_numberBehind_23 rfl (lv_at hl 1 rfl) ?_
          refine lv_icmp_ne (tgt := 29) hx hb dX2_numberBehind_24 (by decide) (fun c_24 => ?_) (fun c_24 => ?_)
          · have e9 : cn f i + 1 = cn f (i + 1) := by rw [cn, c_19]; rfl
            have h9 : nbk f x (i + 1) = none := by simp [nbk, hno, c_24]
            refine lv_iinc (v := (nI (cn f i + 1))) (lv' := [(2, .int (nI (cn f i + 1))), (0, .ref a), (1, .int x), (3, .int (nI i))]) hx hb dX2_numberBehind_29 hl (k := 2) rfl (z_inc (cn f i) 1) (by decide) rfl (fun ls hl => ?_)
            refine lv_iinc (v := (nI (i + 1))) (lv' := [(3, .int (nI (i + 1))), (2, .int (nI (cn f i + 1))), (0, .ref a), (1, .int x)]) hx hb dX2_numberBehind_32 hl (k := 3) rfl (z_inc i 1) (by decide) rfl (fun ls hl => ?_)
            refine lv_goto (tgt := 4) hx hb dX2_numberBehind_35 (by decide) ?_
            have hl : lv_has ls 4 [(3, .int (nI (i + 1))), (2, .int (nI (cn f (i + 1)))), (0, .ref a), (1, .int x)] := Eq.mp (congrArg (fun z9 => lv_has ls 4 [(3, .int (nI (i + 1))), (2, .int z9), (0, .ref a), (1, .int x)]) (congrArg nI (show cn f i + 1 = cn f (i + 1) from e9))) hl
            exact ih_4 (i + 1) (by omega) (h9) (by omega) ls (lv_sub hl [2, 3, 1, 0] rfl)
          · refine lv_iload_n hx hb dX2_numberBehind_27 rfl (lv_at hl 3 rfl) ?_
            have h8 : nbk f x (i + 1) = some i := by simp [nbk, hno, c_19, c_24]
            exact W.iret hx hb hr (fun t ht _ => ⟨_, rfl, (by rw [nbk_up h8 (by omega)]; rfl), ht⟩) (fun _ h => nomatch h) dX2_numberBehind_28
  have hl : lv_has ls 4 [(3, .int (nI 0)), (2, .int (nI (cn f 0))), (0, .ref a), (1, .int x)] := Eq.mp (congrArg (fun z9 => lv_has ls 4 [(3, .int (nI 0)), (2, .int z9), (0, .ref a), (1, .int x)]) (congrArg nI (show 0 = cn f 0 from rfl))) hl
  exact cut_4 ((256 - 0) + 1) 0 (by omega) (rfl) (Nat.lt_succ_self _) ls (lv_sub hl [2, 3, 1, 0] rfl)
abbrev rm_c_X2_leastAbsent : Room := { frames := 0, cells := 0, slots := 0, locals := 0 }
abbrev q_c_X2_leastAbsent (D : va_G) (a : Nat) (h : Nat) (cZ : ClassId) (f : Nat → Bool) : Array Value → State → Outcome → State → Prop := vp_Si (fun r => r = (nI (lo f 256)))
set_option maxHeartbeats 4000000 in
set_option maxRecDepth 100000 in
theorem c_X2_leastAbsent (l : Launch) (D : va_G) (a : Nat) (h : Nat) (cZ : ClassId) (f : Nat → Bool) : Met l yX2_leastAbsent wsX2_leastAbsent rm_c_X2_leastAbsent (va_Pc [.ref a] (fun U => va_P D vwCl [(a, .inr (4, [.ref h])), (h, .inl (cZ, 256, .inl (aB f)))] U.heap ∧ va_K D vwCl [(cZ, .boolean)] U)) (q_c_X2_leastAbsent D a h cZ f) 0 0 (fun _ => False) := by
  refine Met.ofW (cc := cX2_leastAbsent) (maxL := 2) (ret := (some .int)) (by decide) rfl ?_
  intro p e s m args below meth c s₁ B hml hv
  obtain ⟨hargs, hP, hK⟩ := hv
  have hx := B.exec
  have hb := B.bytes
  have hr := B.returns
  have hts := atoms_spec (ws := wsX2_leastAbsent) B.pre
  have hown : s.vm.findClass RX2 = some m.cls := findClass_of_methodNamed B.named
  have hlocks := B.notSynchronized
  have hl := lv_entry ([.ref a]) (n := 2) (Nat.le_of_ble_eq_true rfl)
  refine W.eq (g2 := F0 m 0 (lg_sl ([.ref a]) ++ List.replicate (2 - (lg_sl ([.ref a])).length) Slot.unset).toArray []) (by rw [hargs]; exact lg_entry_eq _ _ _) ?_
  generalize (lg_sl ([.ref a]) ++ List.replicate (2 - (lg_sl ([.ref a])).length) Slot.unset).toArray = ls at hl ⊢
  have hl : lv_has ls 2 [(0, .ref a)] := hl
  refine lv_iconst (v := nI 0) hx hb dX2_leastAbsent_0 zki_0 ?_
  refine lv_istore_n (lv' := [(1, .int (nI 0)), (0, .ref a)]) hx hb dX2_leastAbsent_1 rfl hl (by decide) rfl (fun ls hl => ?_)
  have cut_2 : ∀ (n : Nat) (i : Nat) (hi : i ≤ 256) (hall : ∀ k, k < i → f k = true) (hn9 : 256 - i < n) (ls : Array Slot) (hl : lv_has ls 2 [(0, .ref a), (1, .int (nI i))]), W p l e (headSpec wsX2_leastAbsent rm_c_X2_leastAbsent).room s m args below meth c s.heap [] 0 0 (MQ below (q_c_X2_leastAbsent D a h cZ f) args s 0 0 (fun _ => False)) (F0 m 2 ls []) := by
    intro n
    induction n with
    | zero => intro i hi hall hn9; exact absurd hn9 (Nat.not_lt_zero _)
    | succ n ih_2 =>
      intro i hi hall hn9 ls hl
      refine lv_iload_n hx hb dX2_leastAbsent_2 rfl (lv_at hl 1 rfl) ?_
      refine lv_aload_n hx hb dX2_leastAbsent_3 rfl (lv_at hl 0 rfl) ?_
      refine va_get (D := D) (ci := 4) (v := .ref h) (C := RX2) (T := TX2) (N := 1) hx hb hts nX2_leastAbsent_inX2 hown hK hP 0 rfl rfl 0 (by decide) (hts (.fieldLink RX2 9 "Gamefield$NumberSet" "holds" "[Z") (by decide +kernel)) (fun _ h9 => h9) rfl dX2_leastAbsent_4 ?_
      refine va_alen (v := nI 256) hx hb hK hP 1 0 rfl rfl rfl dX2_leastAbsent_7 ?_
      refine z_cge (tgt := 26) hx hb (by omega) (by omega) dX2_leastAbsent_8 (by decide) (fun c_8 => ?_) (fun c_8 => ?_)
      · refine lv_iload_n hx hb dX2_leastAbsent_26 rfl (lv_at hl 1 rfl) ?_
        exact W.iret hx hb hr (fun t ht _ => ⟨_, rfl, (congrArg nI (lo_eq hi hall (fun q => by first | omega | exact c_17)).symm), ht⟩) (fun _ h => nomatch h) dX2_leastAbsent_27
      · refine lv_aload_n hx hb dX2_leastAbsent_11 rfl (lv_at hl 0 rfl) ?_
        refine va_get (D := D) (ci := 4) (v := .ref h) (C := RX2) (T := TX2) (N := 1) hx hb hts nX2_leastAbsent_inX2 hown hK hP 0 rfl rfl 0 (by decide) (hts (.fieldLink RX2 9 "Gamefield$NumberSet" "holds" "[Z") (by decide +kernel)) (fun _ h9 => h9) rfl dX2_leastAbsent_12 ?_
        refine lv_iload_n hx hb dX2_leastAbsent_15 rfl (lv_at hl 1 rfl) ?_
        refine z_zald hx hb hK hP 1 0 rfl rfl (by omega) (by decide) dX2_leastAbsent_16 ?_
        refine z_beq (tgt := 26) hx hb dX2_leastAbsent_17 (by decide) (fun c_17 => ?_) (fun c_17 => ?_)
        · refine lv_iload_n hx hb dX2_leastAbsent_26 rfl (lv_at hl 1 rfl) ?_
          exact W.iret hx hb hr (fun t ht _ => ⟨_, rfl, (congrArg nI (lo_eq hi hall (fun q => by first | omega | exact c_17)).symm), ht⟩) (fun _ h => nomatch h) dX2_leastAbsent_27
        · refine lv_iinc (v := (nI (i + 1))) (lv' := [(1, .int (nI (i + 1))), (0, .ref a)]) hx hb dX2_leastAbsent_20 hl (k := 1) rfl (z_inc i 1) (by decide) rfl (fun ls hl => ?_)
          refine lv_goto (tgt := 2) hx hb dX2_leastAbsent_23 (by decide) ?_
          exact ih_2 (i + 1) (by omega) (fun k hk => (Nat.lt_or_ge k i).elim (hall k) (fun q => by rw [show k = i by omega]; exact c_17)) (by omega) ls (lv_sub hl [1, 0] rfl)
  exact cut_2 ((256 - 0) + 1) 0 (by omega) (fun k hk => absurd hk (Nat.not_lt_zero k)) (Nat.lt_succ_self _) ls (lv_sub hl [1, 0] rfl)
abbrev rm_c_X2_empty : Room := { frames := 0, cells := 0, slots := 0, locals := 0 }
abbrev q_c_X2_empty (D : va_G) (sz : Nat) (a : Nat) (h : Nat) (cZ : ClassId) (f : Nat → Bool) : Array Value → State → Outcome → State → Prop := va_Qv (fun (_ : Unit) => True) (fun (_ : Unit) t => va_P D vwCl [(a, .inr (4, [.ref h])), (h, .inl (cZ, 256, .inl (aB (fun _ => false))))] t.heap ∧ va_K D vwCl [(cZ, .boolean)] t ∧ va_D (va_A [(a, .inr (4, [.ref h])), (h, .inl (cZ, 256, .inl (aB f)))] sz) [(a, .inr (4, [.ref h])), (h, .inl (cZ, 256, .inl (aB (fun _ => false))))]) (va_A [(a, .inr (4, [.ref h])), (h, .inl (cZ, 256, .inl (aB f)))] sz)
set_option maxHeartbeats 4000000 in
set_option maxRecDepth 100000 in
theorem c_X2_empty (l : Launch) (D : va_G) (sz : Nat) (a : Nat) (h : Nat) (cZ : ClassId) (f : Nat → Bool) : Met l yX2_empty wsX2_empty rm_c_X2_empty (va_Pc [.ref a] (fun U => U.heap.size = sz ∧ va_P D vwCl [(a, .inr (4, [.ref h])), (h, .inl (cZ, 256, .inl (aB f)))] U.heap ∧ va_K D vwCl [(cZ, .boolean)] U ∧ va_D (fun _ => True) [(a, .inr (4, [.ref h])), (h, .inl (cZ, 256, .inl (aB f)))])) (q_c_X2_empty D sz a h cZ f) 0 0 (va_A [(a, .inr (4, [.ref h])), (h, .inl (cZ, 256, .inl (aB f)))] sz) := by
  refine Met.ofW (cc := cX2_empty) (maxL := 2) (ret := none) (by decide) rfl ?_
  intro p e s m args below meth c s₁ B hml hv
  obtain ⟨hargs, hsz, hP, hK, hD0⟩ := hv
  have hx := B.exec
  have hb := B.bytes
  have hr := B.returns
  have hts := atoms_spec (ws := wsX2_empty) B.pre
  have hown : s.vm.findClass RX2 = some m.cls := findClass_of_methodNamed B.named
  have hlocks := B.notSynchronized
  subst hsz
  have hD := hD0.self (sz := s.heap.size)
  generalize hAe : va_A [(a, .inr (4, [.ref h])), (h, .inl (cZ, 256, .inl (aB f)))] s.heap.size = A at hD ⊢
  have hA : ∀ q : Nat, s.heap.size ≤ q → A q := fun q h => by rw [← hAe]; exact Or.inr h
  have hS : va_S A s.heap s.heap [] := va_S.rf
  have hl := lv_entry ([.ref a]) (n := 2) (Nat.le_of_ble_eq_true rfl)
  refine W.eq (g2 := F0 m 0 (lg_sl ([.ref a]) ++ List.replicate (2 - (lg_sl ([.ref a])).length) Slot.unset).toArray []) (by rw [hargs]; exact lg_entry_eq _ _ _) ?_
  generalize (lg_sl ([.ref a]) ++ List.replicate (2 - (lg_sl ([.ref a])).length) Slot.unset).toArray = ls at hl ⊢
  have hl : lv_has ls 2 [(0, .ref a)] := hl
  refine lv_iconst (v := nI 0) hx hb dX2_empty_0 zki_0 ?_
  refine lv_istore_n (lv' := [(1, .int (nI 0)), (0, .ref a)]) hx hb dX2_empty_1 rfl hl (by decide) rfl (fun ls hl => ?_)
  have cut_2 : ∀ (n : Nat) (i : Nat) (hi : i ≤ 256) (hn9 : 256 - i < n) (H : Heap) (locs : List Loc) (hP : va_P D vwCl [(a, .inr (4, [.ref h])), (h, .inl (cZ, 256, .inl (aB (fil (fun _ => false) f i))))] H) (hD : va_D A [(a, .inr (4, [.ref h])), (h, .inl (cZ, 256, .inl (aB (fil (fun _ => false) f i))))]) (hS : va_S A s.heap H locs) (ls : Array Slot) (hl : lv_has ls 2 [(0, .ref a), (1, .int (nI i))]), W p l e (headSpec wsX2_empty rm_c_X2_empty).room s m args below meth c H locs 0 0 (MQ below (q_c_X2_empty D s.heap.size a h cZ f) args s 0 0 A) (F0 m 2 ls []) := by
    intro n
    induction n with
    | zero => intro i hi hn9; exact absurd hn9 (Nat.not_lt_zero _)
    | succ n ih_2 =>
      intro i hi hn9 H locs hP hD hS ls hl
      refine lv_iload_n hx hb dX2_empty_2 rfl (lv_at hl 1 rfl) ?_
      refine lv_aload_n hx hb dX2_empty_3 rfl (lv_at hl 0 rfl) ?_
      refine va_get (D := D) (ci := 4) (v := .ref h) (C := RX2) (T := TX2) (N := 1) hx hb hts nX2_empty_inX2 hown hK hP 0 rfl rfl 0 (by decide) (hts (.fieldLink RX2 9 "Gamefield$NumberSet" "holds" "[Z") (by decide +kernel)) (fun _ h9 => h9) rfl dX2_empty_4 ?_
      refine va_alen (v := nI 256) hx hb hK hP 1 0 rfl rfl rfl dX2_empty_7 ?_
      refine z_cge (tgt := 24) hx hb (by omega) (by omega) dX2_empty_8 (by decide) (fun c_8 => ?_) (fun c_8 => ?_)
      · have hP9 := hP.sub (ws' := [(a, .inr (4, [.ref h])), (h, .inl (cZ, 256, .inl (aB (fil (fun _ => false) f i))))]) [0, 1] rfl
        have hD9 := hD.sub (ws' := [(a, .inr (4, [.ref h])), (h, .inl (cZ, 256, .inl (aB (fil (fun _ => false) f i))))]) [0, 1] (by decide) rfl
        have hP9 := z_recell (k := 1) (g := fun _ => false) hP9 rfl (fun j hj => fil_at (by omega))
        have hD9 := z_reD (k := 1) (g := fun _ => false) hD9 rfl
        have hK9 := hK.sub (tys' := [(cZ, .boolean)]) [0] rfl
        subst hAe
        refine W.widen (k := 0) (n := 0) (Nat.le_of_ble_eq_true rfl) (Nat.le_of_ble_eq_true rfl) ?_
        exact W.vret hx hb hr (fun t ht hW => ⟨⟨(), rfl, (trivial), by rw [ht]; exact hP9, va_K.moved hW.alike hK9, hD9⟩, hS.F ht⟩) hS.2.2 dX2_empty_24
      · refine lv_aload_n hx hb dX2_empty_11 rfl (lv_at hl 0 rfl) ?_
        refine va_get (D := D) (ci := 4) (v := .ref h) (C := RX2) (T := TX2) (N := 1) hx hb hts nX2_empty_inX2 hown hK hP 0 rfl rfl 0 (by decide) (hts (.fieldLink RX2 9 "Gamefield$NumberSet" "holds" "[Z") (by decide +kernel)) (fun _ h9 => h9) rfl dX2_empty_12 ?_
        refine lv_iload_n hx hb dX2_empty_15 rfl (lv_at hl 1 rfl) ?_
        refine lv_iconst (v := nI 0) hx hb dX2_empty_16 zki_0 ?_
        refine zt (show nI 0 = bI false from rfl) ?_
        refine z_zast hx hb hK hP hD hS 1 0 rfl rfl (by omega) (by decide) dX2_empty_17 (fun H locs hP hD hS => ?_)
        have hP : va_P D vwCl [(a, .inr (4, [.ref h])), (h, .inl (cZ, 256, .inl (aB (va_up (fil (fun _ => false) f i) i false))))] H := hP
        have hD : va_D A [(a, .inr (4, [.ref h])), (h, .inl (cZ, 256, .inl (aB (va_up (fil (fun _ => false) f i) i false))))] := hD
        refine lv_iinc (v := (nI (i + 1))) (lv' := [(1, .int (nI (i + 1))), (0, .ref a)]) hx hb dX2_empty_18 hl (k := 1) rfl (z_inc i 1) (by decide) rfl (fun ls hl => ?_)
        refine lv_goto (tgt := 2) hx hb dX2_empty_21 (by decide) ?_
        have hP : va_P D vwCl [(a, .inr (4, [.ref h])), (h, .inl (cZ, 256, .inl (aB (fil (fun _ => false) f (i + 1)))))] H := Eq.mp (congrArg (fun z9 => va_P D vwCl [(a, .inr (4, [.ref h])), (h, .inl (cZ, 256, .inl (aB z9)))] H) ((show va_up (fil (fun _ => false) f i) i false = fil (fun _ => false) f (i + 1) from fil_s _ _ _))) hP
        have hD : va_D A [(a, .inr (4, [.ref h])), (h, .inl (cZ, 256, .inl (aB (fil (fun _ => false) f (i + 1)))))] := Eq.mp (congrArg (fun z9 => va_D A [(a, .inr (4, [.ref h])), (h, .inl (cZ, 256, .inl (aB z9)))]) ((show va_up (fil (fun _ => false) f i) i false = fil (fun _ => false) f (i + 1) from fil_s _ _ _))) hD
        exact ih_2 (i + 1) (by omega) (by omega) H locs hP hD hS ls (lv_sub hl [1, 0] rfl)
  have hP : va_P D vwCl [(a, .inr (4, [.ref h])), (h, .inl (cZ, 256, .inl (aB (fil (fun _ => false) f 0))))] s.heap := Eq.mp (congrArg (fun z9 => va_P D vwCl [(a, .inr (4, [.ref h])), (h, .inl (cZ, 256, .inl (aB z9)))] s.heap) ((show f = fil (fun _ => false) f 0 from (fil_0 _ _).symm))) hP
  have hD : va_D A [(a, .inr (4, [.ref h])), (h, .inl (cZ, 256, .inl (aB (fil (fun _ => false) f 0))))] := Eq.mp (congrArg (fun z9 => va_D A [(a, .inr (4, [.ref h])), (h, .inl (cZ, 256, .inl (aB z9)))]) ((show f = fil (fun _ => false) f 0 from (fil_0 _ _).symm))) hD
  exact cut_2 ((256 - 0) + 1) 0 (by omega) (Nat.lt_succ_self _) _ _ hP hD hS ls (lv_sub hl [1, 0] rfl)
abbrev rm_c_X2_become : Room := { frames := 2, cells := 0, slots := 0, locals := 42 }
abbrev q_c_X2_become (D : va_G) (sz : Nat) (a : Nat) (h : Nat) (cZ : ClassId) (f : Nat → Bool) (b : Nat) (h2 : Nat) (cZ2 : ClassId) (g : Nat → Bool) : Array Value → State → Outcome → State → Prop := va_Qi (fun r (_ : Unit) => r = (nI (cm f g 256))) (fun (_ : Unit) t => va_P D vwCl [(a, .inr (4, [.ref h])), (h, .inl (cZ, 256, .inl (aB g))), (b, .inr (4, [.ref h2])), (h2, .inl (cZ2, 256, .inl (aB g)))] t.heap ∧ va_K D vwCl [(cZ, .boolean), (cZ2, .boolean)] t ∧ va_D (va_A [(a, .inr (4, [.ref h])), (h, .inl (cZ, 256, .inl (aB f))), (b, .inr (4, [.ref h2])), (h2, .inl (cZ2, 256, .inl (aB g)))] sz) [(a, .inr (4, [.ref h])), (h, .inl (cZ, 256, .inl (aB g))), (b, .inr (4, [.ref h2])), (h2, .inl (cZ2, 256, .inl (aB g)))]) (va_A [(a, .inr (4, [.ref h])), (h, .inl (cZ, 256, .inl (aB f))), (b, .inr (4, [.ref h2])), (h2, .inl (cZ2, 256, .inl (aB g)))] sz)
set_option maxHeartbeats 4000000 in
set_option maxRecDepth 100000 in
theorem c_X2_become (l : Launch) (D : va_G) (sz : Nat) (a : Nat) (h : Nat) (cZ : ClassId) (f : Nat → Bool) (b : Nat) (h2 : Nat) (cZ2 : ClassId) (g : Nat → Bool) : Met l yX2_become wsX2_become rm_c_X2_become (va_Pc [.ref a, .ref b] (fun U => U.heap.size = sz ∧ va_P D vwCl [(a, .inr (4, [.ref h])), (h, .inl (cZ, 256, .inl (aB f))), (b, .inr (4, [.ref h2])), (h2, .inl (cZ2, 256, .inl (aB g)))] U.heap ∧ va_K D vwCl [(cZ, .boolean), (cZ2, .boolean)] U ∧ va_D (fun _ => True) [(a, .inr (4, [.ref h])), (h, .inl (cZ, 256, .inl (aB f))), (b, .inr (4, [.ref h2])), (h2, .inl (cZ2, 256, .inl (aB g)))])) (q_c_X2_become D sz a h cZ f b h2 cZ2 g) 0 0 (va_A [(a, .inr (4, [.ref h])), (h, .inl (cZ, 256, .inl (aB f))), (b, .inr (4, [.ref h2])), (h2, .inl (cZ2, 256, .inl (aB g)))] sz) := by
  refine Met.ofW (cc := cX2_become) (maxL := 5) (ret := (some .int)) (by decide) rfl ?_
  intro p e s m args below meth c s₁ B hml hv
  obtain ⟨hargs, hsz, hP, hK, hD0⟩ := hv
  have hx := B.exec
  have hb := B.bytes
  have hr := B.returns
  have hts := atoms_spec (ws := wsX2_become) B.pre
  have hown : s.vm.findClass RX2 = some m.cls := findClass_of_methodNamed B.named
  have hlocks := B.notSynchronized
  subst hsz
  have hD := hD0.self (sz := s.heap.size)
  generalize hAe : va_A [(a, .inr (4, [.ref h])), (h, .inl (cZ, 256, .inl (aB f))), (b, .inr (4, [.ref h2])), (h2, .inl (cZ2, 256, .inl (aB g)))] s.heap.size = A at hD ⊢
  have hA : ∀ q : Nat, s.heap.size ≤ q → A q := fun q h => by rw [← hAe]; exact Or.inr h
  have hS : va_S A s.heap s.heap [] := va_S.rf
  have hl := lv_entry ([.ref a, .ref b]) (n := 5) (Nat.le_of_ble_eq_true rfl)
  refine W.eq (g2 := F0 m 0 (lg_sl ([.ref a, .ref b]) ++ List.replicate (5 - (lg_sl ([.ref a, .ref b])).length) Slot.unset).toArray []) (by rw [hargs]; exact lg_entry_eq _ _ _) ?_
  generalize (lg_sl ([.ref a, .ref b]) ++ List.replicate (5 - (lg_sl ([.ref a, .ref b])).length) Slot.unset).toArray = ls at hl ⊢
  have hl : lv_has ls 5 [(0, .ref a), (1, .ref b)] := hl
  refine lv_iconst (v := nI 0) hx hb dX2_become_0 zki_0 ?_
  refine lv_istore_n (lv' := [(2, .int (nI 0)), (0, .ref a), (1, .ref b)]) hx hb dX2_become_1 rfl hl (by decide) rfl (fun ls hl => ?_)
  refine lv_iconst (v := nI 0) hx hb dX2_become_2 zki_0 ?_
  refine lv_istore_n (lv' := [(3, .int (nI 0)), (2, .int (nI 0)), (0, .ref a), (1, .ref b)]) hx hb dX2_become_3 rfl hl (by decide) rfl (fun ls hl => ?_)
  have cut_4 : ∀ (n : Nat) (i : Nat) (hi : i ≤ 256) (hn9 : 256 - i < n) (H : Heap) (locs : List Loc) (hP : va_P D vwCl [(a, .inr (4, [.ref h])), (h, .inl (cZ, 256, .inl (aB (fil g f i)))), (b, .inr (4, [.ref h2])), (h2, .inl (cZ2, 256, .inl (aB g)))] H) (hD : va_D A [(a, .inr (4, [.ref h])), (h, .inl (cZ, 256, .inl (aB (fil g f i)))), (b, .inr (4, [.ref h2])), (h2, .inl (cZ2, 256, .inl (aB g)))]) (hS : va_S A s.heap H locs) (ls : Array Slot) (hl : lv_has ls 5 [(0, .ref a), (1, .ref b), (2, .int (nI (cm f g i))), (3, .int (nI i))]), W p l e (headSpec wsX2_become rm_c_X2_become).room s m args below meth c H locs 0 0 (MQ below (q_c_X2_become D s.heap.size a h cZ f b h2 cZ2 g) args s 0 0 A) (F0 m 4 ls []) := by
    intro n
    induction n with
    | zero => intro i hi hn9; exact absurd hn9 (Nat.not_lt_zero _)
    | succ n ih_4 =>
      intro i hi hn9 H locs hP hD hS ls hl
      refine lv_iload_n hx hb dX2_become_4 rfl (lv_at hl 3 rfl) ?_
      refine lv_aload_n hx hb dX2_become_5 rfl (lv_at hl 0 rfl) ?_
      refine va_get (D := D) (ci := 4) (v := .ref h) (C := RX2) (T := TX2) (N := 1) hx hb hts nX2_become_inX2 hown hK hP 0 rfl rfl 0 (by decide) (hts (.fieldLink RX2 9 "Gamefield$NumberSet" "holds" "[Z") (by decide +kernel)) (fun _ h9 => h9) rfl dX2_become_6 ?_
      refine va_alen (v := nI 256) hx hb hK hP 1 0 rfl rfl rfl dX2_become_9 ?_
      refine z_cge (tgt := 51) hx hb (by omega) (by omega) dX2_become_10 (by decide) (fun c_10 => ?_) (fun c_10 => ?_)
      · refine lv_iload_n hx hb dX2_become_51 rfl (lv_at hl 2 rfl) ?_
        have hP9 := hP.sub (ws' := [(a, .inr (4, [.ref h])), (h, .inl (cZ, 256, .inl (aB (fil g f i)))), (b, .inr (4, [.ref h2])), (h2, .inl (cZ2, 256, .inl (aB g)))]) [0, 1, 2, 3] rfl
        have hD9 := hD.sub (ws' := [(a, .inr (4, [.ref h])), (h, .inl (cZ, 256, .inl (aB (fil g f i)))), (b, .inr (4, [.ref h2])), (h2, .inl (cZ2, 256, .inl (aB g)))]) [0, 1, 2, 3] (by decide) rfl
        have hP9 := z_recell (k := 1) (g := g) hP9 rfl (fun j hj => fil_at (by omega))
        have hD9 := z_reD (k := 1) (g := g) hD9 rfl
        have hK9 := hK.sub (tys' := [(cZ, .boolean), (cZ2, .boolean)]) [0, 1] rfl
        subst hAe
        refine W.widen (k := 0) (n := 0) (Nat.le_of_ble_eq_true rfl) (Nat.le_of_ble_eq_true rfl) ?_
        exact W.iret hx hb hr (fun t ht hW => ⟨⟨_, (), rfl, (by rw [show i = 256 by omega]), by rw [ht]; exact hP9, va_K.moved hW.alike hK9, hD9⟩, hS.F ht⟩) hS.2.2 dX2_become_52
      · have := cm_le f g i
        refine lv_aload_n hx hb dX2_become_13 rfl (lv_at hl 1 rfl) ?_
        refine lv_iload_n hx hb dX2_become_14 rfl (lv_at hl 3 rfl) ?_
        refine z_ci (va_runV (As := [.int (nI i)]) (rest := []) ⟨hx, hb, hml, hown, hts⟩ (c_X2_contains l D b h2 cZ2 g i (by omega)) (cwV 1 hts gX2_become_X2_contains rfl rfl rfl (by decide +kernel) ⟨Nat.le_of_ble_eq_true rfl, Nat.le_of_ble_eq_true rfl⟩) ⟨(z_fb1), va_recv hK hP (ci := 4) (q0 := 2) rfl rfl, fun U hU hW => ⟨rfl, by rw [hU]; exact (hP.sub (ws' := [(b, .inr (4, [.ref h2])), (h2, .inl (cZ2, 256, .inl (aB g)))]) [2, 3] rfl), va_K.moved hW.alike (hK.sub [1] rfl)⟩⟩ rfl rfl hl.1 rfl (lv_room (Nat.le_of_ble_eq_true rfl)) dX2_become_15 ⟨Nat.le_of_ble_eq_true rfl, Nat.le_of_ble_eq_true rfl⟩) (fun r15 e15 => ?_)
        subst e15
        refine lv_istore (lv' := [(4, .int (bI (g i))), (0, .ref a), (1, .ref b), (2, .int (nI (cm f g i))), (3, .int (nI i))]) hx hb dX2_become_18 hl (by decide) rfl (fun ls hl => ?_)
        have cut_37 : ∀  (H : Heap) (locs : List Loc) (hP : va_P D vwCl [(a, .inr (4, [.ref h])), (h, .inl (cZ, 256, .inl (aB (fil g f i)))), (b, .inr (4, [.ref h2])), (h2, .inl (cZ2, 256, .inl (aB g)))] H) (hD : va_D A [(a, .inr (4, [.ref h])), (h, .inl (cZ, 256, .inl (aB (fil g f i)))), (b, .inr (4, [.ref h2])), (h2, .inl (cZ2, 256, .inl (aB g)))]) (hS : va_S A s.heap H locs) (ls : Array Slot) (hl : lv_has ls 5 [(0, .ref a), (1, .ref b), (2, .int (nI (cm f g (i + 1)))), (3, .int (nI i)), (4, .int (bI (g i)))]), W p l e (headSpec wsX2_become rm_c_X2_become).room s m args below meth c H locs 0 0 (MQ below (q_c_X2_become D s.heap.size a h cZ f b h2 cZ2 g) args s 0 0 A) (F0 m 37 ls []) := by
          intro   H locs hP hD hS ls hl
          refine lv_aload_n hx hb dX2_become_37 rfl (lv_at hl 0 rfl) ?_
          refine va_get (D := D) (ci := 4) (v := .ref h) (C := RX2) (T := TX2) (N := 1) hx hb hts nX2_become_inX2 hown hK hP 0 rfl rfl 0 (by decide) (hts (.fieldLink RX2 9 "Gamefield$NumberSet" "holds" "[Z") (by decide +kernel)) (fun _ h9 => h9) rfl dX2_become_38 ?_
          refine lv_iload_n hx hb dX2_become_41 rfl (lv_at hl 3 rfl) ?_
          refine lv_iload hx hb dX2_become_42 (lv_at hl 4 rfl) ?_
          refine z_zast hx hb hK hP hD hS 1 0 rfl rfl (by omega) (by decide) dX2_become_44 (fun H locs hP hD hS => ?_)
          have hP : va_P D vwCl [(a, .inr (4, [.ref h])), (h, .inl (cZ, 256, .inl (aB (va_up (fil g f i) i (g i))))), (b, .inr (4, [.ref h2])), (h2, .inl (cZ2, 256, .inl (aB g)))] H := hP
          have hD : va_D A [(a, .inr (4, [.ref h])), (h, .inl (cZ, 256, .inl (aB (va_up (fil g f i) i (g i))))), (b, .inr (4, [.ref h2])), (h2, .inl (cZ2, 256, .inl (aB g)))] := hD
          refine lv_iinc (v := (nI (i + 1))) (lv' := [(3, .int (nI (i + 1))), (0, .ref a), (1, .ref b), (2, .int (nI (cm f g (i + 1)))), (4, .int (bI (g i)))]) hx hb dX2_become_45 hl (k := 3) rfl (z_inc i 1) (by decide) rfl (fun ls hl => ?_)
          refine lv_goto (tgt := 4) hx hb dX2_become_48 (by decide) ?_
          have hP : va_P D vwCl [(a, .inr (4, [.ref h])), (h, .inl (cZ, 256, .inl (aB (fil g f (i + 1))))), (b, .inr (4, [.ref h2])), (h2, .inl (cZ2, 256, .inl (aB g)))] H := Eq.mp (congrArg (fun z9 => va_P D vwCl [(a, .inr (4, [.ref h])), (h, .inl (cZ, 256, .inl (aB z9))), (b, .inr (4, [.ref h2])), (h2, .inl (cZ2, 256, .inl (aB g)))] H) ((show va_up (fil g f i) i (g i) = fil g f (i + 1) from fil_s _ _ _))) hP
          have hD : va_D A [(a, .inr (4, [.ref h])), (h, .inl (cZ, 256, .inl (aB (fil g f (i + 1))))), (b, .inr (4, [.ref h2])), (h2, .inl (cZ2, 256, .inl (aB g)))] := Eq.mp (congrArg (fun z9 => va_D A [(a, .inr (4, [.ref h])), (h, .inl (cZ, 256, .inl (aB z9))), (b, .inr (4, [.ref h2])), (h2, .inl (cZ2, 256, .inl (aB g)))]) ((show va_up (fil g f i) i (g i) = fil g f (i + 1) from fil_s _ _ _))) hD
          exact ih_4 (i + 1) (by omega) (by omega) H locs hP hD hS ls (lv_sub hl [1, 2, 3, 0] rfl)
        have hfi : fil g f i i = f i := by simp [fil]
        refine lv_iload hx hb dX2_become_20 (lv_at hl 0 rfl) ?_
        refine z_beq (tgt := 37) hx hb dX2_become_22 (by decide) (fun c_22 => ?_) (fun c_22 => ?_)
        · have hl : lv_has ls 5 [(4, .int (bI (g i))), (0, .ref a), (1, .ref b), (2, .int (nI (cm f g (i + 1)))), (3, .int (nI i))] := Eq.mp (congrArg (fun z9 => lv_has ls 5 [(4, .int (bI (g i))), (0, .ref a), (1, .ref b), (2, .int z9), (3, .int (nI i))]) (congrArg nI (show cm f g i = cm f g (i + 1) from by rw [cm, c_22]; rfl))) hl
          exact cut_37   H locs hP hD hS ls (lv_sub hl [1, 2, 3, 4, 0] rfl)
        · refine lv_aload_n hx hb dX2_become_25 rfl (lv_at hl 1 rfl) ?_
          refine va_get (D := D) (ci := 4) (v := .ref h) (C := RX2) (T := TX2) (N := 1) hx hb hts nX2_become_inX2 hown hK hP 0 rfl rfl 0 (by decide) (hts (.fieldLink RX2 9 "Gamefield$NumberSet" "holds" "[Z") (by decide +kernel)) (fun _ h9 => h9) rfl dX2_become_26 ?_
          refine lv_iload_n hx hb dX2_become_29 rfl (lv_at hl 4 rfl) ?_
          refine z_zald hx hb hK hP 1 0 rfl rfl (by omega) (by decide) dX2_become_30 ?_
          refine z_bne (tgt := 37) hx hb dX2_become_31 (by decide) (fun c_31 => ?_) (fun c_31 => ?_)
          · have hl : lv_has ls 5 [(4, .int (bI (g i))), (0, .ref a), (1, .ref b), (2, .int (nI (cm f g (i + 1)))), (3, .int (nI i))] := Eq.mp (congrArg (fun z9 => lv_has ls 5 [(4, .int (bI (g i))), (0, .ref a), (1, .ref b), (2, .int z9), (3, .int (nI i))]) (congrArg nI (show cm f g i = cm f g (i + 1) from by rw [hfi] at c_31; rw [cm, c_22, c_31]; rfl))) hl
            exact cut_37   H locs hP hD hS ls (lv_sub hl [1, 2, 3, 4, 0] rfl)
          · refine lv_iinc (v := (nI (cm f g i + 1))) (lv' := [(2, .int (nI (cm f g i + 1))), (4, .int (bI (g i))), (0, .ref a), (1, .ref b), (3, .int (nI i))]) hx hb dX2_become_34 hl (k := 3) rfl (z_inc (cm f g i) 1) (by decide) rfl (fun ls hl => ?_)
            have hl : lv_has ls 5 [(2, .int (nI (cm f g (i + 1)))), (4, .int (bI (g i))), (0, .ref a), (1, .ref b), (3, .int (nI i))] := Eq.mp (congrArg (fun z9 => lv_has ls 5 [(2, .int z9), (4, .int (bI (g i))), (0, .ref a), (1, .ref b), (3, .int (nI i))]) (congrArg nI (show cm f g i + 1 = cm f g (i + 1) from by rw [hfi] at c_31; rw [cm, c_22, c_31]; rfl))) hl
            exact cut_37   H locs hP hD hS ls (lv_sub hl [2, 3, 0, 4, 1] rfl)
  have hl : lv_has ls 5 [(3, .int (nI 0)), (2, .int (nI (cm f g 0))), (0, .ref a), (1, .ref b)] := Eq.mp (congrArg (fun z9 => lv_has ls 5 [(3, .int (nI 0)), (2, .int z9), (0, .ref a), (1, .ref b)]) (congrArg nI (show 0 = cm f g 0 from rfl))) hl
  have hP : va_P D vwCl [(a, .inr (4, [.ref h])), (h, .inl (cZ, 256, .inl (aB (fil g f 0)))), (b, .inr (4, [.ref h2])), (h2, .inl (cZ2, 256, .inl (aB g)))] s.heap := Eq.mp (congrArg (fun z9 => va_P D vwCl [(a, .inr (4, [.ref h])), (h, .inl (cZ, 256, .inl (aB z9))), (b, .inr (4, [.ref h2])), (h2, .inl (cZ2, 256, .inl (aB g)))] s.heap) ((show f = fil g f 0 from (fil_0 _ _).symm))) hP
  have hD : va_D A [(a, .inr (4, [.ref h])), (h, .inl (cZ, 256, .inl (aB (fil g f 0)))), (b, .inr (4, [.ref h2])), (h2, .inl (cZ2, 256, .inl (aB g)))] := Eq.mp (congrArg (fun z9 => va_D A [(a, .inr (4, [.ref h])), (h, .inl (cZ, 256, .inl (aB z9))), (b, .inr (4, [.ref h2])), (h2, .inl (cZ2, 256, .inl (aB g)))]) ((show f = fil g f 0 from (fil_0 _ _).symm))) hD
  exact cut_4 ((256 - 0) + 1) 0 (by omega) (Nat.lt_succ_self _) _ _ hP hD hS ls (lv_sub hl [2, 3, 1, 0] rfl)
