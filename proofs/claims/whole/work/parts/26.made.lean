theorem fillT_0 : fillT (16 * 0) = fun _ => 0 := by
  funext j
  unfold fillT
  rw [if_neg (by omega)]
theorem nX2_init_inX2 : ∀ w ∈ u_ws RX2 TX2 1, w ∈ wsX2_init := by decide +kernel
theorem nX4_init_inX4 : ∀ w ∈ u_ws RX4 TX4 5, w ∈ wsX4_init := by decide +kernel
theorem nX3_init_inX3 : ∀ w ∈ u_ws RX3 TX3 2, w ∈ wsX3_init := by decide +kernel
theorem nX3_init_inX2 : ∀ w ∈ u_ws RX2 TX2 1, w ∈ wsX3_init := by decide +kernel
theorem nX0_init_inX2 : ∀ w ∈ u_ws RX2 TX2 1, w ∈ wsX0_init := by decide +kernel
theorem nX0_init_inX0 : ∀ w ∈ u_ws RX0 TX0 2, w ∈ wsX0_init := by decide +kernel
theorem nX1_init_inX2 : ∀ w ∈ u_ws RX2 TX2 1, w ∈ wsX1_init := by decide +kernel
theorem nX1_init_inX1 : ∀ w ∈ u_ws RX1 TX1 2, w ∈ wsX1_init := by decide +kernel
abbrev rm_c_X2_init : Room := { frames := 1, cells := 1, slots := 256, locals := 24 }
abbrev q_c_X2_init (D : va_G) (sz : Nat) (a : Nat) : Array Value → State → Outcome → State → Prop := va_Qv (fun (w9 : (Nat × ClassId)) => match w9 with | (h9, cZ9) => True) (fun (w9 : (Nat × ClassId)) t => match w9 with | (h9, cZ9) => va_P D vwCl [(a, .inr (4, [.ref h9])), (h9, .inl (cZ9, 256, .inl (aB (fun _ => false))))] t.heap ∧ va_K D vwCl [(cZ9, .boolean)] t ∧ va_D (va_A [(a, .inr (4, [.null]))] sz) [(a, .inr (4, [.ref h9])), (h9, .inl (cZ9, 256, .inl (aB (fun _ => false))))]) (va_A [(a, .inr (4, [.null]))] sz)
set_option maxHeartbeats 4000000 in
set_option maxRecDepth 100000 in
theorem c_X2_init (l : Launch) (D : va_G) (sz : Nat) (a : Nat) : Met l yX2_init wsX2_init rm_c_X2_init (va_Pc [.ref a] (fun U => U.heap.size = sz ∧ va_P D vwCl [(a, .inr (4, [.null]))] U.heap ∧ va_K D vwCl [] U ∧ va_D (fun _ => True) [(a, .inr (4, [.null]))])) (q_c_X2_init D sz a) 1 256 (va_A [(a, .inr (4, [.null]))] sz) := by
  refine Met.ofW (cc := cX2_init) (maxL := 1) (ret := none) (by decide) rfl ?_
  intro p e s m args below meth c s₁ B hml hv
  obtain ⟨hargs, hsz, hP, hK, hD0⟩ := hv
  have hx := B.exec
  have hb := B.bytes
  have hr := B.returns
  have hts := atoms_spec (ws := wsX2_init) B.pre
  have hown : s.vm.findClass RX2 = some m.cls := findClass_of_methodNamed B.named
  have hlocks := B.notSynchronized
  have hin : meth.name = "<init>" := (name_of_methodNamed B.named B.method).1
  subst hsz
  have hD := hD0.self (sz := s.heap.size)
  generalize hAe : va_A [(a, .inr (4, [.null]))] s.heap.size = A at hD ⊢
  have hA : ∀ q : Nat, s.heap.size ≤ q → A q := fun q h => by rw [← hAe]; exact Or.inr h
  have hS : va_S A s.heap s.heap [] := va_S.rf
  have hl := lv_entry ([.ref a]) (n := 1) (Nat.le_of_ble_eq_true rfl)
  refine W.eq (g2 := F0 m 0 (lg_sl ([.ref a]) ++ List.replicate (1 - (lg_sl ([.ref a])).length) Slot.unset).toArray []) (by rw [hargs]; exact lg_entry_eq _ _ _) ?_
  generalize (lg_sl ([.ref a]) ++ List.replicate (1 - (lg_sl ([.ref a])).length) Slot.unset).toArray = ls at hl ⊢
  have hl : lv_has ls 1 [(0, .ref a)] := hl
  refine lv_aload_n hx hb dX2_init_0 rfl (lv_at hl 0 rfl) ?_
  refine W.objInit hx hb hown (hts (.methodLink RX2 3 objectInit) (by decide +kernel)) (hts (.instanceMethod objectInit) (by decide +kernel)) (hts (.code objectInit ⟨#[0xb1]⟩ 1 none) (by decide +kernel)) rfl (by rw [hml]; exact hl.1) rfl dX2_init_1 (Nat.le_of_ble_eq_true rfl) (Nat.le_of_ble_eq_true rfl) ?_
  refine W.eq (g2 := F0 m 4 ls []) rfl ?_
  refine lv_aload_n hx hb dX2_init_4 rfl (lv_at hl 0 rfl) ?_
  refine lv_sipush (v := nI 256) hx hb dX2_init_5 zks_256 ?_
  refine va_newa (atype := .boolean) (N' := 256) (a0 := (256, .inl (aB (fun _ => false)))) hx hb (hts (.arrayClass .boolean) (by decide +kernel)) rfl hK hP hD hS hA (fun _ => rfl) (z_npos (by decide)) (nI_clamp (by decide)) (by decide) (Nat.le_of_ble_eq_true rfl) (Nat.le_of_ble_eq_true rfl) dX2_init_8 (fun q8 cA8 H hK hP hD hS => ?_)
  have hK : va_K D vwCl [(cA8, .boolean)] s := hK
  have hP : va_P D vwCl [(a, .inr (4, [.null])), (q8, .inl (cA8, 256, .inl (aB (fun _ => false))))] H := hP
  have hD : va_D A [(a, .inr (4, [.null])), (q8, .inl (cA8, 256, .inl (aB (fun _ => false))))] := hD
  refine W.widen (k := 1) (n := 256) (Nat.le_of_ble_eq_true rfl) (Nat.le_of_ble_eq_true rfl) ?_
  refine va_putF (D := D) (ci := 4) (v := .ref q8) (ty := .array .boolean) (C := RX2) (T := TX2) (N := 1) hx hb hts nX2_init_inX2 tyX2 tyX2_ok nmX2 hown hK hP hD hS 0 rfl rfl 0 (by decide) (hts (.fieldLink RX2 9 "Gamefield$NumberSet" "holds" "[Z") (by decide +kernel)) (fun _ h9 => h9) rfl hin rfl (by decide +kernel) rfl rfl (Nat.le_of_ble_eq_true rfl) dX2_init_10 (fun H locs hP hD hS => ?_)
  have hP : va_P D vwCl [(a, .inr (4, [.ref q8])), (q8, .inl (cA8, 256, .inl (aB (fun _ => false))))] H := hP
  have hD : va_D A [(a, .inr (4, [.ref q8])), (q8, .inl (cA8, 256, .inl (aB (fun _ => false))))] := hD
  have hP9 := hP.sub (ws' := [(a, .inr (4, [.ref q8])), (q8, .inl (cA8, 256, .inl (aB (fun _ => false))))]) [0, 1] rfl
  have hD9 := hD.sub (ws' := [(a, .inr (4, [.ref q8])), (q8, .inl (cA8, 256, .inl (aB (fun _ => false))))]) [0, 1] (by decide) rfl
  have hK9 := hK.sub (tys' := [(cA8, .boolean)]) [0] rfl
  subst hAe
  refine W.widen (k := 1) (n := 256) (Nat.le_of_ble_eq_true rfl) (Nat.le_of_ble_eq_true rfl) ?_
  exact W.vret hx hb hr (fun t ht hW => ⟨⟨(q8, cA8), rfl, (trivial), by rw [ht]; exact hP9, va_K.moved hW.alike hK9, hD9⟩, hS.F ht⟩) hS.2.2 dX2_init_13
abbrev rm_c_X4_init : Room := { frames := 1, cells := 3, slots := 24, locals := 24 }
abbrev q_c_X4_init (D : va_G) (sz : Nat) (rg : Nat) : Array Value → State → Outcome → State → Prop := va_Qv (fun (w9 : (Nat × Nat × Nat × ClassId × ClassId × ClassId)) => match w9 with | (rV9, rC9, rB9, cV9, cC9, cB9) => True) (fun (w9 : (Nat × Nat × Nat × ClassId × ClassId × ClassId)) t => match w9 with | (rV9, rC9, rB9, cV9, cC9, cB9) => va_P D vwCl [(rg, .inr (6, [.ref rV9, .ref rC9, .ref rB9, .int (nI 0), .int (nI 0)])), (rV9, .inl (cV9, 8, .inl (aN (fun _ => 0)))), (rC9, .inl (cC9, 8, .inl (aN (fun _ => 0)))), (rB9, .inl (cB9, 8, .inl (aN (fun _ => 0))))] t.heap ∧ va_K D vwCl [(cV9, .int), (cC9, .int), (cB9, .int)] t ∧ va_D (va_A [(rg, .inr (6, [.null, .null, .null, .int 0, .int 0]))] sz) [(rg, .inr (6, [.ref rV9, .ref rC9, .ref rB9, .int (nI 0), .int (nI 0)])), (rV9, .inl (cV9, 8, .inl (aN (fun _ => 0)))), (rC9, .inl (cC9, 8, .inl (aN (fun _ => 0)))), (rB9, .inl (cB9, 8, .inl (aN (fun _ => 0))))]) (va_A [(rg, .inr (6, [.null, .null, .null, .int 0, .int 0]))] sz)
set_option maxHeartbeats 4000000 in
set_option maxRecDepth 100000 in
theorem c_X4_init (l : Launch) (D : va_G) (sz : Nat) (rg : Nat) : Met l yX4_init wsX4_init rm_c_X4_init (va_Pc [.ref rg] (fun U => U.heap.size = sz ∧ va_P D vwCl [(rg, .inr (6, [.null, .null, .null, .int 0, .int 0]))] U.heap ∧ va_K D vwCl [] U ∧ va_D (fun _ => True) [(rg, .inr (6, [.null, .null, .null, .int 0, .int 0]))])) (q_c_X4_init D sz rg) 3 24 (va_A [(rg, .inr (6, [.null, .null, .null, .int 0, .int 0]))] sz) := by
  refine Met.ofW (cc := cX4_init) (maxL := 1) (ret := none) (by decide) rfl ?_
  intro p e s m args below meth c s₁ B hml hv
  obtain ⟨hargs, hsz, hP, hK, hD0⟩ := hv
  have hx := B.exec
  have hb := B.bytes
  have hr := B.returns
  have hts := atoms_spec (ws := wsX4_init) B.pre
  have hown : s.vm.findClass RX4 = some m.cls := findClass_of_methodNamed B.named
  have hlocks := B.notSynchronized
  have hin : meth.name = "<init>" := (name_of_methodNamed B.named B.method).1
  subst hsz
  have hD := hD0.self (sz := s.heap.size)
  generalize hAe : va_A [(rg, .inr (6, [.null, .null, .null, .int 0, .int 0]))] s.heap.size = A at hD ⊢
  have hA : ∀ q : Nat, s.heap.size ≤ q → A q := fun q h => by rw [← hAe]; exact Or.inr h
  have hS : va_S A s.heap s.heap [] := va_S.rf
  have hl := lv_entry ([.ref rg]) (n := 1) (Nat.le_of_ble_eq_true rfl)
  refine W.eq (g2 := F0 m 0 (lg_sl ([.ref rg]) ++ List.replicate (1 - (lg_sl ([.ref rg])).length) Slot.unset).toArray []) (by rw [hargs]; exact lg_entry_eq _ _ _) ?_
  generalize (lg_sl ([.ref rg]) ++ List.replicate (1 - (lg_sl ([.ref rg])).length) Slot.unset).toArray = ls at hl ⊢
  have hl : lv_has ls 1 [(0, .ref rg)] := hl
  refine lv_aload_n hx hb dX4_init_0 rfl (lv_at hl 0 rfl) ?_
  refine W.objInit hx hb hown (hts (.methodLink RX4 3 objectInit) (by decide +kernel)) (hts (.instanceMethod objectInit) (by decide +kernel)) (hts (.code objectInit ⟨#[0xb1]⟩ 1 none) (by decide +kernel)) rfl (by rw [hml]; exact hl.1) rfl dX4_init_1 (Nat.le_of_ble_eq_true rfl) (Nat.le_of_ble_eq_true rfl) ?_
  refine W.eq (g2 := F0 m 4 ls []) rfl ?_
  refine lv_aload_n hx hb dX4_init_4 rfl (lv_at hl 0 rfl) ?_
  refine lv_bipush (v := nI 8) hx hb dX4_init_5 zkb_8 ?_
  refine va_newa (atype := .int) (N' := 8) (a0 := (8, .inl (aN (fun _ => 0)))) hx hb (hts (.arrayClass .int) (by decide +kernel)) rfl hK hP hD hS hA (fun _ => rfl) (z_npos (by decide)) (nI_clamp (by decide)) (by decide) (Nat.le_of_ble_eq_true rfl) (Nat.le_of_ble_eq_true rfl) dX4_init_7 (fun q7 cA7 H hK hP hD hS => ?_)
  have hK : va_K D vwCl [(cA7, .int)] s := hK
  have hP : va_P D vwCl [(rg, .inr (6, [.null, .null, .null, .int 0, .int 0])), (q7, .inl (cA7, 8, .inl (aN (fun _ => 0))))] H := hP
  have hD : va_D A [(rg, .inr (6, [.null, .null, .null, .int 0, .int 0])), (q7, .inl (cA7, 8, .inl (aN (fun _ => 0))))] := hD
  refine W.widen (k := 1) (n := 8) (Nat.le_of_ble_eq_true rfl) (Nat.le_of_ble_eq_true rfl) ?_
  refine va_putF (D := D) (ci := 6) (v := .ref q7) (ty := .array .int) (C := RX4) (T := TX4) (N := 5) hx hb hts nX4_init_inX4 tyX4 tyX4_ok nmX4 hown hK hP hD hS 0 rfl rfl 0 (by decide) (hts (.fieldLink RX4 11 "Gamefield$Registers" "values" "[I") (by decide +kernel)) (fun _ h9 => h9) rfl hin rfl (by decide +kernel) rfl rfl (Nat.le_of_ble_eq_true rfl) dX4_init_9 (fun H locs hP hD hS => ?_)
  have hP : va_P D vwCl [(rg, .inr (6, [.ref q7, .null, .null, .int 0, .int 0])), (q7, .inl (cA7, 8, .inl (aN (fun _ => 0))))] H := hP
  have hD : va_D A [(rg, .inr (6, [.ref q7, .null, .null, .int 0, .int 0])), (q7, .inl (cA7, 8, .inl (aN (fun _ => 0))))] := hD
  refine lv_aload_n hx hb dX4_init_12 rfl (lv_at hl 0 rfl) ?_
  refine lv_bipush (v := nI 8) hx hb dX4_init_13 zkb_8 ?_
  refine va_newa (atype := .int) (N' := 8) (a0 := (8, .inl (aN (fun _ => 0)))) hx hb (hts (.arrayClass .int) (by decide +kernel)) rfl hK hP hD hS hA (fun _ => rfl) (z_npos (by decide)) (nI_clamp (by decide)) (by decide) (Nat.le_of_ble_eq_true rfl) (Nat.le_of_ble_eq_true rfl) dX4_init_15 (fun q15 cA15 H hK hP hD hS => ?_)
  have hK : va_K D vwCl [(cA7, .int), (cA15, .int)] s := hK
  have hP : va_P D vwCl [(rg, .inr (6, [.ref q7, .null, .null, .int 0, .int 0])), (q7, .inl (cA7, 8, .inl (aN (fun _ => 0)))), (q15, .inl (cA15, 8, .inl (aN (fun _ => 0))))] H := hP
  have hD : va_D A [(rg, .inr (6, [.ref q7, .null, .null, .int 0, .int 0])), (q7, .inl (cA7, 8, .inl (aN (fun _ => 0)))), (q15, .inl (cA15, 8, .inl (aN (fun _ => 0))))] := hD
  refine W.widen (k := 2) (n := 16) (Nat.le_of_ble_eq_true rfl) (Nat.le_of_ble_eq_true rfl) ?_
  refine va_putF (D := D) (ci := 6) (v := .ref q15) (ty := .array .int) (C := RX4) (T := TX4) (N := 5) hx hb hts nX4_init_inX4 tyX4 tyX4_ok nmX4 hown hK hP hD hS 0 rfl rfl 1 (by decide) (hts (.fieldLink RX4 15 "Gamefield$Registers" "changed" "[I") (by decide +kernel)) (fun _ h9 => h9) rfl hin rfl (by decide +kernel) rfl rfl (Nat.le_of_ble_eq_true rfl) dX4_init_17 (fun H locs hP hD hS => ?_)
  have hP : va_P D vwCl [(rg, .inr (6, [.ref q7, .ref q15, .null, .int 0, .int 0])), (q7, .inl (cA7, 8, .inl (aN (fun _ => 0)))), (q15, .inl (cA15, 8, .inl (aN (fun _ => 0))))] H := hP
  have hD : va_D A [(rg, .inr (6, [.ref q7, .ref q15, .null, .int 0, .int 0])), (q7, .inl (cA7, 8, .inl (aN (fun _ => 0)))), (q15, .inl (cA15, 8, .inl (aN (fun _ => 0))))] := hD
  refine lv_aload_n hx hb dX4_init_20 rfl (lv_at hl 0 rfl) ?_
  refine lv_bipush (v := nI 8) hx hb dX4_init_21 zkb_8 ?_
  refine va_newa (atype := .int) (N' := 8) (a0 := (8, .inl (aN (fun _ => 0)))) hx hb (hts (.arrayClass .int) (by decide +kernel)) rfl hK hP hD hS hA (fun _ => rfl) (z_npos (by decide)) (nI_clamp (by decide)) (by decide) (Nat.le_of_ble_eq_true rfl) (Nat.le_of_ble_eq_true rfl) dX4_init_23 (fun q23 cA23 H hK hP hD hS => ?_)
  have hK : va_K D vwCl [(cA7, .int), (cA15, .int), (cA23, .int)] s := hK
  have hP : va_P D vwCl [(rg, .inr (6, [.ref q7, .ref q15, .null, .int 0, .int 0])), (q7, .inl (cA7, 8, .inl (aN (fun _ => 0)))), (q15, .inl (cA15, 8, .inl (aN (fun _ => 0)))), (q23, .inl (cA23, 8, .inl (aN (fun _ => 0))))] H := hP
  have hD : va_D A [(rg, .inr (6, [.ref q7, .ref q15, .null, .int 0, .int 0])), (q7, .inl (cA7, 8, .inl (aN (fun _ => 0)))), (q15, .inl (cA15, 8, .inl (aN (fun _ => 0)))), (q23, .inl (cA23, 8, .inl (aN (fun _ => 0))))] := hD
  refine W.widen (k := 3) (n := 24) (Nat.le_of_ble_eq_true rfl) (Nat.le_of_ble_eq_true rfl) ?_
  refine va_putF (D := D) (ci := 6) (v := .ref q23) (ty := .array .int) (C := RX4) (T := TX4) (N := 5) hx hb hts nX4_init_inX4 tyX4 tyX4_ok nmX4 hown hK hP hD hS 0 rfl rfl 2 (by decide) (hts (.fieldLink RX4 18 "Gamefield$Registers" "valueBefore" "[I") (by decide +kernel)) (fun _ h9 => h9) rfl hin rfl (by decide +kernel) rfl rfl (Nat.le_of_ble_eq_true rfl) dX4_init_25 (fun H locs hP hD hS => ?_)
  have hP : va_P D vwCl [(rg, .inr (6, [.ref q7, .ref q15, .ref q23, .int 0, .int 0])), (q7, .inl (cA7, 8, .inl (aN (fun _ => 0)))), (q15, .inl (cA15, 8, .inl (aN (fun _ => 0)))), (q23, .inl (cA23, 8, .inl (aN (fun _ => 0))))] H := hP
  have hD : va_D A [(rg, .inr (6, [.ref q7, .ref q15, .ref q23, .int 0, .int 0])), (q7, .inl (cA7, 8, .inl (aN (fun _ => 0)))), (q15, .inl (cA15, 8, .inl (aN (fun _ => 0)))), (q23, .inl (cA23, 8, .inl (aN (fun _ => 0))))] := hD
  refine lv_aload_n hx hb dX4_init_28 rfl (lv_at hl 0 rfl) ?_
  refine lv_iconst (v := nI 0) hx hb dX4_init_29 zki_0 ?_
  refine va_put (D := D) (ci := 6) (v := .int (nI 0)) (ty := .int) (C := RX4) (T := TX4) (N := 5) hx hb hts nX4_init_inX4 tyX4 tyX4_ok nmX4 hown hK hP hD hS 0 rfl rfl 3 (by decide) (hts (.fieldLink RX4 21 "Gamefield$Registers" "changes" "I") (by decide +kernel)) (fun _ h9 => h9) rfl (by decide +kernel) rfl rfl (Nat.le_of_ble_eq_true rfl) dX4_init_30 (fun H locs hP hD hS => ?_)
  have hP : va_P D vwCl [(rg, .inr (6, [.ref q7, .ref q15, .ref q23, .int (nI 0), .int 0])), (q7, .inl (cA7, 8, .inl (aN (fun _ => 0)))), (q15, .inl (cA15, 8, .inl (aN (fun _ => 0)))), (q23, .inl (cA23, 8, .inl (aN (fun _ => 0))))] H := hP
  have hD : va_D A [(rg, .inr (6, [.ref q7, .ref q15, .ref q23, .int (nI 0), .int 0])), (q7, .inl (cA7, 8, .inl (aN (fun _ => 0)))), (q15, .inl (cA15, 8, .inl (aN (fun _ => 0)))), (q23, .inl (cA23, 8, .inl (aN (fun _ => 0))))] := hD
  refine lv_aload_n hx hb dX4_init_33 rfl (lv_at hl 0 rfl) ?_
  refine lv_iconst (v := nI 0) hx hb dX4_init_34 zki_0 ?_
  refine va_put (D := D) (ci := 6) (v := .int (nI 0)) (ty := .int) (C := RX4) (T := TX4) (N := 5) hx hb hts nX4_init_inX4 tyX4 tyX4_ok nmX4 hown hK hP hD hS 0 rfl rfl 4 (by decide) (hts (.fieldLink RX4 25 "Gamefield$Registers" "kept" "I") (by decide +kernel)) (fun _ h9 => h9) rfl (by decide +kernel) rfl rfl (Nat.le_of_ble_eq_true rfl) dX4_init_35 (fun H locs hP hD hS => ?_)
  have hP : va_P D vwCl [(rg, .inr (6, [.ref q7, .ref q15, .ref q23, .int (nI 0), .int (nI 0)])), (q7, .inl (cA7, 8, .inl (aN (fun _ => 0)))), (q15, .inl (cA15, 8, .inl (aN (fun _ => 0)))), (q23, .inl (cA23, 8, .inl (aN (fun _ => 0))))] H := hP
  have hD : va_D A [(rg, .inr (6, [.ref q7, .ref q15, .ref q23, .int (nI 0), .int (nI 0)])), (q7, .inl (cA7, 8, .inl (aN (fun _ => 0)))), (q15, .inl (cA15, 8, .inl (aN (fun _ => 0)))), (q23, .inl (cA23, 8, .inl (aN (fun _ => 0))))] := hD
  have hP9 := hP.sub (ws' := [(rg, .inr (6, [.ref q7, .ref q15, .ref q23, .int (nI 0), .int (nI 0)])), (q7, .inl (cA7, 8, .inl (aN (fun _ => 0)))), (q15, .inl (cA15, 8, .inl (aN (fun _ => 0)))), (q23, .inl (cA23, 8, .inl (aN (fun _ => 0))))]) [0, 1, 2, 3] rfl
  have hD9 := hD.sub (ws' := [(rg, .inr (6, [.ref q7, .ref q15, .ref q23, .int (nI 0), .int (nI 0)])), (q7, .inl (cA7, 8, .inl (aN (fun _ => 0)))), (q15, .inl (cA15, 8, .inl (aN (fun _ => 0)))), (q23, .inl (cA23, 8, .inl (aN (fun _ => 0))))]) [0, 1, 2, 3] (by decide) rfl
  have hK9 := hK.sub (tys' := [(cA7, .int), (cA15, .int), (cA23, .int)]) [0, 1, 2] rfl
  subst hAe
  refine W.widen (k := 3) (n := 24) (Nat.le_of_ble_eq_true rfl) (Nat.le_of_ble_eq_true rfl) ?_
  exact W.vret hx hb hr (fun t ht hW => ⟨⟨(q7, q15, q23, cA7, cA15, cA23), rfl, (trivial), by rw [ht]; exact hP9, va_K.moved hW.alike hK9, hD9⟩, hS.F ht⟩) hS.2.2 dX4_init_38
abbrev rm_c_X3_init : Room := { frames := 2, cells := 3, slots := 513, locals := 53 }
abbrev q_c_X3_init (D : va_G) (sz : Nat) (nm : Nat) : Array Value → State → Outcome → State → Prop := va_Qv (fun (w9 : (Nat × Nat × Nat × ClassId × ClassId)) => match w9 with | (tT9, mS9, mH9, cI9, cZ9) => True) (fun (w9 : (Nat × Nat × Nat × ClassId × ClassId)) t => match w9 with | (tT9, mS9, mH9, cI9, cZ9) => va_P D vwCl [(nm, .inr (5, [.ref tT9, .ref mS9])), (tT9, .inl (cI9, 256, .inl (aN ztab))), (mS9, .inr (4, [.ref mH9])), (mH9, .inl (cZ9, 256, .inl (aB (fun _ => false))))] t.heap ∧ va_K D vwCl [(cI9, .int), (cZ9, .boolean)] t ∧ va_D (va_A [(nm, .inr (5, [.null, .null]))] sz) [(nm, .inr (5, [.ref tT9, .ref mS9])), (tT9, .inl (cI9, 256, .inl (aN ztab))), (mS9, .inr (4, [.ref mH9])), (mH9, .inl (cZ9, 256, .inl (aB (fun _ => false))))]) (va_A [(nm, .inr (5, [.null, .null]))] sz)
set_option maxHeartbeats 4000000 in
set_option maxRecDepth 100000 in
theorem c_X3_init (l : Launch) (D : va_G) (sz : Nat) (nm : Nat) : Met l yX3_init wsX3_init rm_c_X3_init (va_Pc [.ref nm] (fun U => U.heap.size = sz ∧ va_P D vwCl [(nm, .inr (5, [.null, .null]))] U.heap ∧ va_K D vwCl [] U ∧ va_D (fun _ => True) [(nm, .inr (5, [.null, .null]))] ∧ va_Nw (.methodLinkNest RX3 17 yX2_init "Gamefield") U)) (q_c_X3_init D sz nm) 3 513 (va_A [(nm, .inr (5, [.null, .null]))] sz) := by
  refine Met.ofW (cc := cX3_init) (maxL := 3) (ret := none) (by decide) rfl ?_
  intro p e s m args below meth c s₁ B hml hv
  obtain ⟨hargs, hsz, hP, hK, hD0, hx0⟩ := hv
  have hx := B.exec
  have hb := B.bytes
  have hr := B.returns
  have hts := atoms_spec (ws := wsX3_init) B.pre
  have hown : s.vm.findClass RX3 = some m.cls := findClass_of_methodNamed B.named
  have hlocks := B.notSynchronized
  have hin : meth.name = "<init>" := (name_of_methodNamed B.named B.method).1
  subst hsz
  have hD := hD0.self (sz := s.heap.size)
  generalize hAe : va_A [(nm, .inr (5, [.null, .null]))] s.heap.size = A at hD ⊢
  have hA : ∀ q : Nat, s.heap.size ≤ q → A q := fun q h => by rw [← hAe]; exact Or.inr h
  have hS : va_S A s.heap s.heap [] := va_S.rf
  have hl := lv_entry ([.ref nm]) (n := 3) (Nat.le_of_ble_eq_true rfl)
  refine W.eq (g2 := F0 m 0 (lg_sl ([.ref nm]) ++ List.replicate (3 - (lg_sl ([.ref nm])).length) Slot.unset).toArray []) (by rw [hargs]; exact lg_entry_eq _ _ _) ?_
  generalize (lg_sl ([.ref nm]) ++ List.replicate (3 - (lg_sl ([.ref nm])).length) Slot.unset).toArray = ls at hl ⊢
  have hl : lv_has ls 3 [(0, .ref nm)] := hl
  refine lv_aload_n hx hb dX3_init_0 rfl (lv_at hl 0 rfl) ?_
  refine W.objInit hx hb hown (hts (.methodLink RX3 3 objectInit) (by decide +kernel)) (hts (.instanceMethod objectInit) (by decide +kernel)) (hts (.code objectInit ⟨#[0xb1]⟩ 1 none) (by decide +kernel)) rfl (by rw [hml]; exact hl.1) rfl dX3_init_1 (Nat.le_of_ble_eq_true rfl) (Nat.le_of_ble_eq_true rfl) ?_
  refine W.eq (g2 := F0 m 4 ls []) rfl ?_
  refine lv_aload_n hx hb dX3_init_4 rfl (lv_at hl 0 rfl) ?_
  refine lv_sipush (v := nI 256) hx hb dX3_init_5 zks_256 ?_
  refine va_newa (atype := .int) (N' := 256) (a0 := (256, .inl (aN (fun _ => 0)))) hx hb (hts (.arrayClass .int) (by decide +kernel)) rfl hK hP hD hS hA (fun _ => rfl) (z_npos (by decide)) (nI_clamp (by decide)) (by decide) (Nat.le_of_ble_eq_true rfl) (Nat.le_of_ble_eq_true rfl) dX3_init_8 (fun q8 cA8 H hK hP hD hS => ?_)
  have hK : va_K D vwCl [(cA8, .int)] s := hK
  have hP : va_P D vwCl [(nm, .inr (5, [.null, .null])), (q8, .inl (cA8, 256, .inl (aN (fun _ => 0))))] H := hP
  have hD : va_D A [(nm, .inr (5, [.null, .null])), (q8, .inl (cA8, 256, .inl (aN (fun _ => 0))))] := hD
  refine W.widen (k := 1) (n := 256) (Nat.le_of_ble_eq_true rfl) (Nat.le_of_ble_eq_true rfl) ?_
  refine va_putF (D := D) (ci := 5) (v := .ref q8) (ty := .array .int) (C := RX3) (T := TX3) (N := 2) hx hb hts nX3_init_inX3 tyX3 tyX3_ok nmX3 hown hK hP hD hS 0 rfl rfl 0 (by decide) (hts (.fieldLink RX3 11 "Gamefield$Numbers" "smallProducts" "[I") (by decide +kernel)) (fun _ h9 => h9) rfl hin rfl (by decide +kernel) rfl rfl (Nat.le_of_ble_eq_true rfl) dX3_init_10 (fun H locs hP hD hS => ?_)
  have hP : va_P D vwCl [(nm, .inr (5, [.ref q8, .null])), (q8, .inl (cA8, 256, .inl (aN (fun _ => 0))))] H := hP
  have hD : va_D A [(nm, .inr (5, [.ref q8, .null])), (q8, .inl (cA8, 256, .inl (aN (fun _ => 0))))] := hD
  refine lv_aload_n hx hb dX3_init_13 rfl (lv_at hl 0 rfl) ?_
  refine va_new (ci := 4) (fs := [.null]) (C := RX2) (T := TX2) (N := 1) hx hb hts nX3_init_inX2 tyX2 tyX2_ok hown (hts (.classLink RX3 15 RX2) (by decide +kernel)) (hts (.instantiable RX2 1) (by decide +kernel)) (hts (.initialized RX2) (by decide +kernel)) hK hP hD hS hA rfl (fun j hj => by rcases (show j = 0 by omega) with rfl <;> rfl) (Nat.le_of_ble_eq_true rfl) (Nat.le_of_ble_eq_true rfl) dX3_init_14 (fun q14 H hP hD hS => ?_)
  have hP : va_P D vwCl [(nm, .inr (5, [.ref q8, .null])), (q8, .inl (cA8, 256, .inl (aN (fun _ => 0)))), (q14, .inr (4, [.null]))] H := hP
  have hD : va_D A [(nm, .inr (5, [.ref q8, .null])), (q8, .inl (cA8, 256, .inl (aN (fun _ => 0)))), (q14, .inr (4, [.null]))] := hD
  refine W.widen (k := 2) (n := 257) (Nat.le_of_ble_eq_true rfl) (Nat.le_of_ble_eq_true rfl) ?_
  refine lv_dup hx hb dX3_init_17 rfl ?_
  have hPc := hP.sub (ws' := [(q14, .inr (4, [.null]))]) [2] rfl
  have hDc := hD.sub (ws' := [(q14, .inr (4, [.null]))]) [2] (by decide) rfl
  have hKc := hK.sub (tys' := []) [] rfl
  have hFc := va_free (wc := [(q14, .inr (4, [.null]))]) hD hS hA [2] rfl
  refine va_callv (va_runIN (As := []) (rest := [.ref q14, .ref nm]) ⟨hx, hb, hml, hown, hts⟩ (c_X2_init l D H.size q14 ) ⟨va_cnB (host := "Gamefield") 0 hts gX3_init_X2_init_n17 rfl rfl rfl hx0 (hts (.initialized RX2) (by decide +kernel)) (by decide +kernel) ⟨Nat.le_of_ble_eq_true rfl, Nat.le_of_ble_eq_true rfl⟩, rfl, hts (.instanceMethod yX2_init) (by decide +kernel)⟩ ⟨(z_fb2), fun U hU hW => ⟨rfl, by rw [hU], by rw [hU]; exact hPc, va_K.moved hW.alike hKc, hDc.weaken (fun _ _ _ _ => trivial)⟩⟩ rfl rfl hl.1 rfl (lv_room (Nat.le_of_ble_eq_true rfl)) dX3_init_18 ⟨Nat.le_of_ble_eq_true rfl, Nat.le_of_ble_eq_true rfl⟩) hS (fun q _ h => hFc q h) hFc (fun u18 t H locs ht hvm e18 hB hz1 hk1 hS => ?_)
  obtain ⟨h_18, cZ_18⟩ := u18
  try dsimp only at e18 hB
  obtain ⟨hP1, hK1, hD1⟩ := hB
  rw [ht] at hP1
  obtain ⟨hP, hD⟩ := va_join (wr := [(nm, .inr (5, [.ref q8, .null])), (q8, .inl (cA8, 256, .inl (aN (fun _ => 0))))]) (w1 := [(q14, .inr (4, [.ref h_18])), (h_18, .inl (cZ_18, 256, .inl (aB (fun _ => false))))]) hP hD [2] [0, 1] rfl rfl (by decide) (by decide) hk1 hFc hP1 hD1
  have hP : va_P D vwCl [(nm, .inr (5, [.ref q8, .null])), (q8, .inl (cA8, 256, .inl (aN (fun _ => 0)))), (q14, .inr (4, [.ref h_18])), (h_18, .inl (cZ_18, 256, .inl (aB (fun _ => false))))] H := hP
  have hD : va_D A [(nm, .inr (5, [.ref q8, .null])), (q8, .inl (cA8, 256, .inl (aN (fun _ => 0)))), (q14, .inr (4, [.ref h_18])), (h_18, .inl (cZ_18, 256, .inl (aB (fun _ => false))))] := hD
  have hK := hK.app (va_K.moved hvm.symm hK1)
  have hK : va_K D vwCl [(cA8, .int), (cZ_18, .boolean)] s := hK
  refine W.widen (k := 3) (n := 513) (Nat.le_of_ble_eq_true rfl) (Nat.le_of_ble_eq_true rfl) ?_
  refine va_putF (D := D) (ci := 5) (v := .ref q14) (ty := .object "Gamefield$NumberSet") (C := RX3) (T := TX3) (N := 2) hx hb hts nX3_init_inX3 tyX3 tyX3_ok nmX3 hown hK hP hD hS 0 rfl rfl 1 (by decide) (hts (.fieldLink RX3 18 "Gamefield$Numbers" "made" "LGamefield$NumberSet;") (by decide +kernel)) (fun _ h9 => h9) rfl hin rfl (by decide +kernel) rfl rfl (Nat.le_of_ble_eq_true rfl) dX3_init_21 (fun H locs hP hD hS => ?_)
  have hP : va_P D vwCl [(nm, .inr (5, [.ref q8, .ref q14])), (q8, .inl (cA8, 256, .inl (aN (fun _ => 0)))), (q14, .inr (4, [.ref h_18])), (h_18, .inl (cZ_18, 256, .inl (aB (fun _ => false))))] H := hP
  have hD : va_D A [(nm, .inr (5, [.ref q8, .ref q14])), (q8, .inl (cA8, 256, .inl (aN (fun _ => 0)))), (q14, .inr (4, [.ref h_18])), (h_18, .inl (cZ_18, 256, .inl (aB (fun _ => false))))] := hD
  refine lv_iconst (v := nI 0) hx hb dX3_init_24 zki_0 ?_
  refine lv_istore_n (lv' := [(1, .int (nI 0)), (0, .ref nm)]) hx hb dX3_init_25 rfl hl (by decide) rfl (fun ls hl => ?_)
  have cut_26 : ∀ (nn9 : Nat) (i : Nat) (hi : i ≤ 16) (hn9 : 16 - i < nn9) (H : Heap) (locs : List Loc) (hP : va_P D vwCl [(nm, .inr (5, [.ref q8, .ref q14])), (q8, .inl (cA8, 256, .inl (aN (fillT (16 * i))))), (q14, .inr (4, [.ref h_18])), (h_18, .inl (cZ_18, 256, .inl (aB (fun _ => false))))] H) (hD : va_D A [(nm, .inr (5, [.ref q8, .ref q14])), (q8, .inl (cA8, 256, .inl (aN (fillT (16 * i))))), (q14, .inr (4, [.ref h_18])), (h_18, .inl (cZ_18, 256, .inl (aB (fun _ => false))))]) (hS : va_S A s.heap H locs) (ls : Array Slot) (hl : lv_has ls 3 [(0, .ref nm), (1, .int (nI i))]), W p l e (headSpec wsX3_init rm_c_X3_init).room s m args below meth c H locs 3 513 (MQ below (q_c_X3_init D s.heap.size nm) args s 3 513 A) (F0 m 26 ls []) := by
    intro nn9
    induction nn9 with
    | zero => intro i hi hn9; exact absurd hn9 (Nat.not_lt_zero _)
    | succ nn9 ih_26 =>
      intro i hi hn9 H locs hP hD hS ls hl
      refine lv_iload_n hx hb dX3_init_26 rfl (lv_at hl 1 rfl) ?_
      refine lv_bipush (v := nI 16) hx hb dX3_init_27 zkb_16 ?_
      refine z_cge (tgt := 69) hx hb (by omega) (by omega) dX3_init_29 (by decide) (fun c_29 => ?_) (fun c_29 => ?_)
      · have hP9 := hP.sub (ws' := [(nm, .inr (5, [.ref q8, .ref q14])), (q8, .inl (cA8, 256, .inl (aN (fillT (16 * i))))), (q14, .inr (4, [.ref h_18])), (h_18, .inl (cZ_18, 256, .inl (aB (fun _ => false))))]) [0, 1, 2, 3] rfl
        have hD9 := hD.sub (ws' := [(nm, .inr (5, [.ref q8, .ref q14])), (q8, .inl (cA8, 256, .inl (aN (fillT (16 * i))))), (q14, .inr (4, [.ref h_18])), (h_18, .inl (cZ_18, 256, .inl (aB (fun _ => false))))]) [0, 1, 2, 3] (by decide) rfl
        rw [show 16 * i = 256 by omega] at hP9 hD9
        have hK9 := hK.sub (tys' := [(cA8, .int), (cZ_18, .boolean)]) [0, 1] rfl
        subst hAe
        refine W.widen (k := 3) (n := 513) (Nat.le_of_ble_eq_true rfl) (Nat.le_of_ble_eq_true rfl) ?_
        exact W.vret hx hb hr (fun t ht hW => ⟨⟨(q8, q14, h_18, cA8, cZ_18), rfl, (trivial), by rw [ht]; exact hP9, va_K.moved hW.alike hK9, hD9⟩, hS.F ht⟩) hS.2.2 dX3_init_69
      · refine lv_iconst (v := nI 0) hx hb dX3_init_32 zki_0 ?_
        refine lv_istore_n (lv' := [(2, .int (nI 0)), (0, .ref nm), (1, .int (nI i))]) hx hb dX3_init_33 rfl hl (by decide) rfl (fun ls hl => ?_)
        have cut_34 : ∀ (nn9 : Nat) (j : Nat) (hj : j ≤ 16) (hn9 : 16 - j < nn9) (H : Heap) (locs : List Loc) (hP : va_P D vwCl [(nm, .inr (5, [.ref q8, .ref q14])), (q8, .inl (cA8, 256, .inl (aN (fillT (16 * i + j))))), (q14, .inr (4, [.ref h_18])), (h_18, .inl (cZ_18, 256, .inl (aB (fun _ => false))))] H) (hD : va_D A [(nm, .inr (5, [.ref q8, .ref q14])), (q8, .inl (cA8, 256, .inl (aN (fillT (16 * i + j))))), (q14, .inr (4, [.ref h_18])), (h_18, .inl (cZ_18, 256, .inl (aB (fun _ => false))))]) (hS : va_S A s.heap H locs) (ls : Array Slot) (hl : lv_has ls 3 [(0, .ref nm), (1, .int (nI i)), (2, .int (nI j))]), W p l e (headSpec wsX3_init rm_c_X3_init).room s m args below meth c H locs 3 513 (MQ below (q_c_X3_init D s.heap.size nm) args s 3 513 A) (F0 m 34 ls []) := by
          intro nn9
          induction nn9 with
          | zero => intro j hj hn9; exact absurd hn9 (Nat.not_lt_zero _)
          | succ nn9 ih_34 =>
            intro j hj hn9 H locs hP hD hS ls hl
            refine lv_iload_n hx hb dX3_init_34 rfl (lv_at hl 2 rfl) ?_
            refine lv_bipush (v := nI 16) hx hb dX3_init_35 zkb_16 ?_
            refine z_cge (tgt := 63) hx hb (by omega) (by omega) dX3_init_37 (by decide) (fun c_37 => ?_) (fun c_37 => ?_)
            · refine lv_iinc (v := (nI (i + 1))) (lv' := [(1, .int (nI (i + 1))), (0, .ref nm), (2, .int (nI j))]) hx hb dX3_init_63 hl (k := 1) rfl (z_inc i 1) (by decide) rfl (fun ls hl => ?_)
              refine lv_goto (tgt := 26) hx hb dX3_init_66 (by decide) ?_
              have hP : va_P D vwCl [(nm, .inr (5, [.ref q8, .ref q14])), (q8, .inl (cA8, 256, .inl (aN (fillT (16 * (i + 1)))))), (q14, .inr (4, [.ref h_18])), (h_18, .inl (cZ_18, 256, .inl (aB (fun _ => false))))] H := Eq.mp (congrArg (fun z9 => va_P D vwCl [(nm, .inr (5, [.ref q8, .ref q14])), (q8, .inl (cA8, 256, .inl (aN z9))), (q14, .inr (4, [.ref h_18])), (h_18, .inl (cZ_18, 256, .inl (aB (fun _ => false))))] H) ((show fillT (16 * i + j) = fillT (16 * (i + 1)) from by rw [show 16 * (i + 1) = 16 * i + j by omega]))) hP
              have hD : va_D A [(nm, .inr (5, [.ref q8, .ref q14])), (q8, .inl (cA8, 256, .inl (aN (fillT (16 * (i + 1)))))), (q14, .inr (4, [.ref h_18])), (h_18, .inl (cZ_18, 256, .inl (aB (fun _ => false))))] := Eq.mp (congrArg (fun z9 => va_D A [(nm, .inr (5, [.ref q8, .ref q14])), (q8, .inl (cA8, 256, .inl (aN z9))), (q14, .inr (4, [.ref h_18])), (h_18, .inl (cZ_18, 256, .inl (aB (fun _ => false))))]) ((show fillT (16 * i + j) = fillT (16 * (i + 1)) from by rw [show 16 * (i + 1) = 16 * i + j by omega]))) hD
              exact ih_26 (i + 1) (by omega) (by omega) H locs hP hD hS ls (lv_sub hl [1, 0] rfl)
            · refine lv_aload_n hx hb dX3_init_40 rfl (lv_at hl 0 rfl) ?_
              refine va_get (D := D) (ci := 5) (v := .ref q8) (C := RX3) (T := TX3) (N := 2) hx hb hts nX3_init_inX3 hown hK hP 0 rfl rfl 0 (by decide) (hts (.fieldLink RX3 11 "Gamefield$Numbers" "smallProducts" "[I") (by decide +kernel)) (fun _ h9 => h9) rfl dX3_init_41 ?_
              refine lv_bipush (v := nI 16) hx hb dX3_init_44 zkb_16 ?_
              refine lv_iload_n hx hb dX3_init_46 rfl (lv_at hl 1 rfl) ?_
              refine z_mul hx hb dX3_init_47 ?_
              refine lv_iload_n hx hb dX3_init_48 rfl (lv_at hl 2 rfl) ?_
              refine z_add hx hb dX3_init_49 ?_
              refine lv_aload_n hx hb dX3_init_50 rfl (lv_at hl 0 rfl) ?_
              refine lv_iload_n hx hb dX3_init_51 rfl (lv_at hl 1 rfl) ?_
              refine lv_iload_n hx hb dX3_init_52 rfl (lv_at hl 2 rfl) ?_
              refine z_ci (va_runV (As := [.int (nI i), .int (nI j)]) (rest := [.int (nI ((16 * i) + j)), .ref q8]) ⟨hx, hb, hml, hown, hts⟩ (c_X3_productOf_g l D nm q8 q14 cA8 (fillT (16 * i + j)) i j (by omega) (by omega) (fun k => fillT_lt _ k (by omega))) (cwV 2 hts gX3_init_X3_productOf rfl rfl rfl (by decide +kernel) ⟨Nat.le_of_ble_eq_true rfl, Nat.le_of_ble_eq_true rfl⟩) ⟨(z_fb1), va_recv hK hP (ci := 5) (q0 := 0) rfl rfl, fun U hU hW => ⟨rfl, by rw [hU]; exact (hP.sub (ws' := [(nm, .inr (5, [.ref q8, .ref q14])), (q8, .inl (cA8, 256, .inl (aN (fillT (16 * i + j)))))]) [0, 1] rfl), va_K.moved hW.alike (hK.sub [0] rfl)⟩⟩ rfl rfl hl.1 rfl (lv_room (Nat.le_of_ble_eq_true rfl)) dX3_init_53 ⟨Nat.le_of_ble_eq_true rfl, Nat.le_of_ble_eq_true rfl⟩) (fun r53 e53 => ?_)
              subst e53
              refine zt (show nI (npT (fillT (16 * i + j)) i j) = nI (np i j) from by rw [npT_fill (by omega) (by omega)]) ?_
              refine z_iast hx hb hK hP hD hS 1 0 rfl rfl (by omega) (by decide) dX3_init_56 (fun H locs hP hD hS => ?_)
              have hP : va_P D vwCl [(nm, .inr (5, [.ref q8, .ref q14])), (q8, .inl (cA8, 256, .inl (aN (va_up (fillT (16 * i + j)) ((16 * i) + j) (np i j))))), (q14, .inr (4, [.ref h_18])), (h_18, .inl (cZ_18, 256, .inl (aB (fun _ => false))))] H := hP
              have hD : va_D A [(nm, .inr (5, [.ref q8, .ref q14])), (q8, .inl (cA8, 256, .inl (aN (va_up (fillT (16 * i + j)) ((16 * i) + j) (np i j))))), (q14, .inr (4, [.ref h_18])), (h_18, .inl (cZ_18, 256, .inl (aB (fun _ => false))))] := hD
              refine lv_iinc (v := (nI (j + 1))) (lv' := [(2, .int (nI (j + 1))), (0, .ref nm), (1, .int (nI i))]) hx hb dX3_init_57 hl (k := 2) rfl (z_inc j 1) (by decide) rfl (fun ls hl => ?_)
              refine lv_goto (tgt := 34) hx hb dX3_init_60 (by decide) ?_
              have hP : va_P D vwCl [(nm, .inr (5, [.ref q8, .ref q14])), (q8, .inl (cA8, 256, .inl (aN (fillT (16 * i + (j + 1)))))), (q14, .inr (4, [.ref h_18])), (h_18, .inl (cZ_18, 256, .inl (aB (fun _ => false))))] H := Eq.mp (congrArg (fun z9 => va_P D vwCl [(nm, .inr (5, [.ref q8, .ref q14])), (q8, .inl (cA8, 256, .inl (aN z9))), (q14, .inr (4, [.ref h_18])), (h_18, .inl (cZ_18, 256, .inl (aB (fun _ => false))))] H) ((show va_up (fillT (16 * i + j)) ((16 * i) + j) (np i j) = fillT (16 * i + (j + 1)) from fillT_s (by omega) (by omega)))) hP
              have hD : va_D A [(nm, .inr (5, [.ref q8, .ref q14])), (q8, .inl (cA8, 256, .inl (aN (fillT (16 * i + (j + 1)))))), (q14, .inr (4, [.ref h_18])), (h_18, .inl (cZ_18, 256, .inl (aB (fun _ => false))))] := Eq.mp (congrArg (fun z9 => va_D A [(nm, .inr (5, [.ref q8, .ref q14])), (q8, .inl (cA8, 256, .inl (aN z9))), (q14, .inr (4, [.ref h_18])), (h_18, .inl (cZ_18, 256, .inl (aB (fun _ => false))))]) ((show va_up (fillT (16 * i + j)) ((16 * i) + j) (np i j) = fillT (16 * i + (j + 1)) from fillT_s (by omega) (by omega)))) hD
              exact ih_34 (j + 1) (by omega) (by omega) H locs hP hD hS ls (lv_sub hl [1, 2, 0] rfl)
        have hP : va_P D vwCl [(nm, .inr (5, [.ref q8, .ref q14])), (q8, .inl (cA8, 256, .inl (aN (fillT (16 * i + 0))))), (q14, .inr (4, [.ref h_18])), (h_18, .inl (cZ_18, 256, .inl (aB (fun _ => false))))] H := Eq.mp (congrArg (fun z9 => va_P D vwCl [(nm, .inr (5, [.ref q8, .ref q14])), (q8, .inl (cA8, 256, .inl (aN z9))), (q14, .inr (4, [.ref h_18])), (h_18, .inl (cZ_18, 256, .inl (aB (fun _ => false))))] H) ((show fillT (16 * i) = fillT (16 * i + 0) from rfl))) hP
        have hD : va_D A [(nm, .inr (5, [.ref q8, .ref q14])), (q8, .inl (cA8, 256, .inl (aN (fillT (16 * i + 0))))), (q14, .inr (4, [.ref h_18])), (h_18, .inl (cZ_18, 256, .inl (aB (fun _ => false))))] := Eq.mp (congrArg (fun z9 => va_D A [(nm, .inr (5, [.ref q8, .ref q14])), (q8, .inl (cA8, 256, .inl (aN z9))), (q14, .inr (4, [.ref h_18])), (h_18, .inl (cZ_18, 256, .inl (aB (fun _ => false))))]) ((show fillT (16 * i) = fillT (16 * i + 0) from rfl))) hD
        exact cut_34 ((16 - 0) + 1) 0 (by omega) (Nat.lt_succ_self _) H locs hP hD hS ls (lv_sub hl [1, 2, 0] rfl)
  have hP : va_P D vwCl [(nm, .inr (5, [.ref q8, .ref q14])), (q8, .inl (cA8, 256, .inl (aN (fillT (16 * 0))))), (q14, .inr (4, [.ref h_18])), (h_18, .inl (cZ_18, 256, .inl (aB (fun _ => false))))] H := Eq.mp (congrArg (fun z9 => va_P D vwCl [(nm, .inr (5, [.ref q8, .ref q14])), (q8, .inl (cA8, 256, .inl (aN z9))), (q14, .inr (4, [.ref h_18])), (h_18, .inl (cZ_18, 256, .inl (aB (fun _ => false))))] H) ((show (fun _ => 0) = fillT (16 * 0) from fillT_0.symm))) hP
  have hD : va_D A [(nm, .inr (5, [.ref q8, .ref q14])), (q8, .inl (cA8, 256, .inl (aN (fillT (16 * 0))))), (q14, .inr (4, [.ref h_18])), (h_18, .inl (cZ_18, 256, .inl (aB (fun _ => false))))] := Eq.mp (congrArg (fun z9 => va_D A [(nm, .inr (5, [.ref q8, .ref q14])), (q8, .inl (cA8, 256, .inl (aN z9))), (q14, .inr (4, [.ref h_18])), (h_18, .inl (cZ_18, 256, .inl (aB (fun _ => false))))]) ((show (fun _ => 0) = fillT (16 * 0) from fillT_0.symm))) hD
  exact cut_26 ((16 - 0) + 1) 0 (by omega) (Nat.lt_succ_self _) H locs hP hD hS ls (lv_sub hl [1, 0] rfl)
abbrev rm_c_X0_init : Room := { frames := 2, cells := 4, slots := 514, locals := 44 }
abbrev q_c_X0_init (D : va_G) (sz : Nat) (bk : Nat) : Array Value → State → Outcome → State → Prop := va_Qv (fun (w9 : (Nat × Nat × Nat × Nat × ClassId × ClassId)) => match w9 with | (nO9, tO9, nH9, tH9, cN9, cT9) => True) (fun (w9 : (Nat × Nat × Nat × Nat × ClassId × ClassId)) t => match w9 with | (nO9, tO9, nH9, tH9, cN9, cT9) => va_P D vwCl [(bk, .inr (2, [.ref nO9, .ref tO9])), (nO9, .inr (4, [.ref nH9])), (nH9, .inl (cN9, 256, .inl (aB (fun _ => false)))), (tO9, .inr (4, [.ref tH9])), (tH9, .inl (cT9, 256, .inl (aB (fun _ => false))))] t.heap ∧ va_K D vwCl [(cN9, .boolean), (cT9, .boolean)] t ∧ va_D (va_A [(bk, .inr (2, [.null, .null]))] sz) [(bk, .inr (2, [.ref nO9, .ref tO9])), (nO9, .inr (4, [.ref nH9])), (nH9, .inl (cN9, 256, .inl (aB (fun _ => false)))), (tO9, .inr (4, [.ref tH9])), (tH9, .inl (cT9, 256, .inl (aB (fun _ => false))))]) (va_A [(bk, .inr (2, [.null, .null]))] sz)
set_option maxHeartbeats 4000000 in
set_option maxRecDepth 100000 in
theorem c_X0_init (l : Launch) (D : va_G) (sz : Nat) (bk : Nat) : Met l yX0_init wsX0_init rm_c_X0_init (va_Pc [.ref bk] (fun U => U.heap.size = sz ∧ va_P D vwCl [(bk, .inr (2, [.null, .null]))] U.heap ∧ va_K D vwCl [] U ∧ va_D (fun _ => True) [(bk, .inr (2, [.null, .null]))] ∧ va_Nw (.methodLinkNest RX0 11 yX2_init "Gamefield") U)) (q_c_X0_init D sz bk) 4 514 (va_A [(bk, .inr (2, [.null, .null]))] sz) := by
  refine Met.ofW (cc := cX0_init) (maxL := 1) (ret := none) (by decide) rfl ?_
  intro p e s m args below meth c s₁ B hml hv
  obtain ⟨hargs, hsz, hP, hK, hD0, hx0⟩ := hv
  have hx := B.exec
  have hb := B.bytes
  have hr := B.returns
  have hts := atoms_spec (ws := wsX0_init) B.pre
  have hown : s.vm.findClass RX0 = some m.cls := findClass_of_methodNamed B.named
  have hlocks := B.notSynchronized
  have hin : meth.name = "<init>" := (name_of_methodNamed B.named B.method).1
  subst hsz
  have hD := hD0.self (sz := s.heap.size)
  generalize hAe : va_A [(bk, .inr (2, [.null, .null]))] s.heap.size = A at hD ⊢
  have hA : ∀ q : Nat, s.heap.size ≤ q → A q := fun q h => by rw [← hAe]; exact Or.inr h
  have hS : va_S A s.heap s.heap [] := va_S.rf
  have hl := lv_entry ([.ref bk]) (n := 1) (Nat.le_of_ble_eq_true rfl)
  refine W.eq (g2 := F0 m 0 (lg_sl ([.ref bk]) ++ List.replicate (1 - (lg_sl ([.ref bk])).length) Slot.unset).toArray []) (by rw [hargs]; exact lg_entry_eq _ _ _) ?_
  generalize (lg_sl ([.ref bk]) ++ List.replicate (1 - (lg_sl ([.ref bk])).length) Slot.unset).toArray = ls at hl ⊢
  have hl : lv_has ls 1 [(0, .ref bk)] := hl
  refine lv_aload_n hx hb dX0_init_0 rfl (lv_at hl 0 rfl) ?_
  refine W.objInit hx hb hown (hts (.methodLink RX0 3 objectInit) (by decide +kernel)) (hts (.instanceMethod objectInit) (by decide +kernel)) (hts (.code objectInit ⟨#[0xb1]⟩ 1 none) (by decide +kernel)) rfl (by rw [hml]; exact hl.1) rfl dX0_init_1 (Nat.le_of_ble_eq_true rfl) (Nat.le_of_ble_eq_true rfl) ?_
  refine W.eq (g2 := F0 m 4 ls []) rfl ?_
  refine lv_aload_n hx hb dX0_init_4 rfl (lv_at hl 0 rfl) ?_
  refine va_new (ci := 4) (fs := [.null]) (C := RX2) (T := TX2) (N := 1) hx hb hts nX0_init_inX2 tyX2 tyX2_ok hown (hts (.classLink RX0 9 RX2) (by decide +kernel)) (hts (.instantiable RX2 1) (by decide +kernel)) (hts (.initialized RX2) (by decide +kernel)) hK hP hD hS hA rfl (fun j hj => by rcases (show j = 0 by omega) with rfl <;> rfl) (Nat.le_of_ble_eq_true rfl) (Nat.le_of_ble_eq_true rfl) dX0_init_5 (fun q5 H hP hD hS => ?_)
  have hP : va_P D vwCl [(bk, .inr (2, [.null, .null])), (q5, .inr (4, [.null]))] H := hP
  have hD : va_D A [(bk, .inr (2, [.null, .null])), (q5, .inr (4, [.null]))] := hD
  refine W.widen (k := 1) (n := 1) (Nat.le_of_ble_eq_true rfl) (Nat.le_of_ble_eq_true rfl) ?_
  refine lv_dup hx hb dX0_init_8 rfl ?_
  have hPc := hP.sub (ws' := [(q5, .inr (4, [.null]))]) [1] rfl
  have hDc := hD.sub (ws' := [(q5, .inr (4, [.null]))]) [1] (by decide) rfl
  have hKc := hK.sub (tys' := []) [] rfl
  have hFc := va_free (wc := [(q5, .inr (4, [.null]))]) hD hS hA [1] rfl
  refine va_callv (va_runIN (As := []) (rest := [.ref q5, .ref bk]) ⟨hx, hb, hml, hown, hts⟩ (c_X2_init l D H.size q5 ) ⟨va_cnB (host := "Gamefield") 0 hts gX0_init_X2_init_n11 rfl rfl rfl hx0 (hts (.initialized RX2) (by decide +kernel)) (by decide +kernel) ⟨Nat.le_of_ble_eq_true rfl, Nat.le_of_ble_eq_true rfl⟩, rfl, hts (.instanceMethod yX2_init) (by decide +kernel)⟩ ⟨(z_fb2), fun U hU hW => ⟨rfl, by rw [hU], by rw [hU]; exact hPc, va_K.moved hW.alike hKc, hDc.weaken (fun _ _ _ _ => trivial)⟩⟩ rfl rfl hl.1 rfl (lv_room (Nat.le_of_ble_eq_true rfl)) dX0_init_9 ⟨Nat.le_of_ble_eq_true rfl, Nat.le_of_ble_eq_true rfl⟩) hS (fun q _ h => hFc q h) hFc (fun u9 t H locs ht hvm e9 hB hz1 hk1 hS => ?_)
  obtain ⟨h_9, cZ_9⟩ := u9
  try dsimp only at e9 hB
  obtain ⟨hP1, hK1, hD1⟩ := hB
  rw [ht] at hP1
  obtain ⟨hP, hD⟩ := va_join (wr := [(bk, .inr (2, [.null, .null]))]) (w1 := [(q5, .inr (4, [.ref h_9])), (h_9, .inl (cZ_9, 256, .inl (aB (fun _ => false))))]) hP hD [1] [0] rfl rfl (by decide) (by decide) hk1 hFc hP1 hD1
  have hP : va_P D vwCl [(bk, .inr (2, [.null, .null])), (q5, .inr (4, [.ref h_9])), (h_9, .inl (cZ_9, 256, .inl (aB (fun _ => false))))] H := hP
  have hD : va_D A [(bk, .inr (2, [.null, .null])), (q5, .inr (4, [.ref h_9])), (h_9, .inl (cZ_9, 256, .inl (aB (fun _ => false))))] := hD
  have hK := hK.app (va_K.moved hvm.symm hK1)
  have hK : va_K D vwCl [(cZ_9, .boolean)] s := hK
  refine W.widen (k := 2) (n := 257) (Nat.le_of_ble_eq_true rfl) (Nat.le_of_ble_eq_true rfl) ?_
  refine va_putF (D := D) (ci := 2) (v := .ref q5) (ty := .object "Gamefield$NumberSet") (C := RX0) (T := TX0) (N := 2) hx hb hts nX0_init_inX0 tyX0 tyX0_ok nmX0 hown hK hP hD hS 0 rfl rfl 0 (by decide) (hts (.fieldLink RX0 12 "Gamefield$Basket" "now" "LGamefield$NumberSet;") (by decide +kernel)) (fun _ h9 => h9) rfl hin rfl (by decide +kernel) rfl rfl (Nat.le_of_ble_eq_true rfl) dX0_init_12 (fun H locs hP hD hS => ?_)
  have hP : va_P D vwCl [(bk, .inr (2, [.ref q5, .null])), (q5, .inr (4, [.ref h_9])), (h_9, .inl (cZ_9, 256, .inl (aB (fun _ => false))))] H := hP
  have hD : va_D A [(bk, .inr (2, [.ref q5, .null])), (q5, .inr (4, [.ref h_9])), (h_9, .inl (cZ_9, 256, .inl (aB (fun _ => false))))] := hD
  refine lv_aload_n hx hb dX0_init_15 rfl (lv_at hl 0 rfl) ?_
  refine va_new (ci := 4) (fs := [.null]) (C := RX2) (T := TX2) (N := 1) hx hb hts nX0_init_inX2 tyX2 tyX2_ok hown (hts (.classLink RX0 9 RX2) (by decide +kernel)) (hts (.instantiable RX2 1) (by decide +kernel)) (hts (.initialized RX2) (by decide +kernel)) hK hP hD hS hA rfl (fun j hj => by rcases (show j = 0 by omega) with rfl <;> rfl) (Nat.le_of_ble_eq_true rfl) (Nat.le_of_ble_eq_true rfl) dX0_init_16 (fun q16 H hP hD hS => ?_)
  have hP : va_P D vwCl [(bk, .inr (2, [.ref q5, .null])), (q5, .inr (4, [.ref h_9])), (h_9, .inl (cZ_9, 256, .inl (aB (fun _ => false)))), (q16, .inr (4, [.null]))] H := hP
  have hD : va_D A [(bk, .inr (2, [.ref q5, .null])), (q5, .inr (4, [.ref h_9])), (h_9, .inl (cZ_9, 256, .inl (aB (fun _ => false)))), (q16, .inr (4, [.null]))] := hD
  refine W.widen (k := 3) (n := 258) (Nat.le_of_ble_eq_true rfl) (Nat.le_of_ble_eq_true rfl) ?_
  refine lv_dup hx hb dX0_init_19 rfl ?_
  have hPc := hP.sub (ws' := [(q16, .inr (4, [.null]))]) [3] rfl
  have hDc := hD.sub (ws' := [(q16, .inr (4, [.null]))]) [3] (by decide) rfl
  have hKc := hK.sub (tys' := []) [] rfl
  have hFc := va_free (wc := [(q16, .inr (4, [.null]))]) hD hS hA [3] rfl
  refine va_callv (va_runIN (As := []) (rest := [.ref q16, .ref bk]) ⟨hx, hb, hml, hown, hts⟩ (c_X2_init l D H.size q16 ) ⟨va_cnB (host := "Gamefield") 0 hts gX0_init_X2_init_n11 rfl rfl rfl hx0 (hts (.initialized RX2) (by decide +kernel)) (by decide +kernel) ⟨Nat.le_of_ble_eq_true rfl, Nat.le_of_ble_eq_true rfl⟩, rfl, hts (.instanceMethod yX2_init) (by decide +kernel)⟩ ⟨(z_fb2), fun U hU hW => ⟨rfl, by rw [hU], by rw [hU]; exact hPc, va_K.moved hW.alike hKc, hDc.weaken (fun _ _ _ _ => trivial)⟩⟩ rfl rfl hl.1 rfl (lv_room (Nat.le_of_ble_eq_true rfl)) dX0_init_20 ⟨Nat.le_of_ble_eq_true rfl, Nat.le_of_ble_eq_true rfl⟩) hS (fun q _ h => hFc q h) hFc (fun u20 t H locs ht hvm e20 hB hz1 hk1 hS => ?_)
  obtain ⟨h_20, cZ_20⟩ := u20
  try dsimp only at e20 hB
  obtain ⟨hP1, hK1, hD1⟩ := hB
  rw [ht] at hP1
  obtain ⟨hP, hD⟩ := va_join (wr := [(bk, .inr (2, [.ref q5, .null])), (q5, .inr (4, [.ref h_9])), (h_9, .inl (cZ_9, 256, .inl (aB (fun _ => false))))]) (w1 := [(q16, .inr (4, [.ref h_20])), (h_20, .inl (cZ_20, 256, .inl (aB (fun _ => false))))]) hP hD [3] [0, 1, 2] rfl rfl (by decide) (by decide) hk1 hFc hP1 hD1
  have hP : va_P D vwCl [(bk, .inr (2, [.ref q5, .null])), (q5, .inr (4, [.ref h_9])), (h_9, .inl (cZ_9, 256, .inl (aB (fun _ => false)))), (q16, .inr (4, [.ref h_20])), (h_20, .inl (cZ_20, 256, .inl (aB (fun _ => false))))] H := hP
  have hD : va_D A [(bk, .inr (2, [.ref q5, .null])), (q5, .inr (4, [.ref h_9])), (h_9, .inl (cZ_9, 256, .inl (aB (fun _ => false)))), (q16, .inr (4, [.ref h_20])), (h_20, .inl (cZ_20, 256, .inl (aB (fun _ => false))))] := hD
  have hK := hK.app (va_K.moved hvm.symm hK1)
  have hK : va_K D vwCl [(cZ_9, .boolean), (cZ_20, .boolean)] s := hK
  refine W.widen (k := 4) (n := 514) (Nat.le_of_ble_eq_true rfl) (Nat.le_of_ble_eq_true rfl) ?_
  refine va_putF (D := D) (ci := 2) (v := .ref q16) (ty := .object "Gamefield$NumberSet") (C := RX0) (T := TX0) (N := 2) hx hb hts nX0_init_inX0 tyX0 tyX0_ok nmX0 hown hK hP hD hS 0 rfl rfl 1 (by decide) (hts (.fieldLink RX0 18 "Gamefield$Basket" "then" "LGamefield$NumberSet;") (by decide +kernel)) (fun _ h9 => h9) rfl hin rfl (by decide +kernel) rfl rfl (Nat.le_of_ble_eq_true rfl) dX0_init_23 (fun H locs hP hD hS => ?_)
  have hP : va_P D vwCl [(bk, .inr (2, [.ref q5, .ref q16])), (q5, .inr (4, [.ref h_9])), (h_9, .inl (cZ_9, 256, .inl (aB (fun _ => false)))), (q16, .inr (4, [.ref h_20])), (h_20, .inl (cZ_20, 256, .inl (aB (fun _ => false))))] H := hP
  have hD : va_D A [(bk, .inr (2, [.ref q5, .ref q16])), (q5, .inr (4, [.ref h_9])), (h_9, .inl (cZ_9, 256, .inl (aB (fun _ => false)))), (q16, .inr (4, [.ref h_20])), (h_20, .inl (cZ_20, 256, .inl (aB (fun _ => false))))] := hD
  have hP9 := hP.sub (ws' := [(bk, .inr (2, [.ref q5, .ref q16])), (q5, .inr (4, [.ref h_9])), (h_9, .inl (cZ_9, 256, .inl (aB (fun _ => false)))), (q16, .inr (4, [.ref h_20])), (h_20, .inl (cZ_20, 256, .inl (aB (fun _ => false))))]) [0, 1, 2, 3, 4] rfl
  have hD9 := hD.sub (ws' := [(bk, .inr (2, [.ref q5, .ref q16])), (q5, .inr (4, [.ref h_9])), (h_9, .inl (cZ_9, 256, .inl (aB (fun _ => false)))), (q16, .inr (4, [.ref h_20])), (h_20, .inl (cZ_20, 256, .inl (aB (fun _ => false))))]) [0, 1, 2, 3, 4] (by decide) rfl
  have hK9 := hK.sub (tys' := [(cZ_9, .boolean), (cZ_20, .boolean)]) [0, 1] rfl
  subst hAe
  refine W.widen (k := 4) (n := 514) (Nat.le_of_ble_eq_true rfl) (Nat.le_of_ble_eq_true rfl) ?_
  exact W.vret hx hb hr (fun t ht hW => ⟨⟨(q5, q16, h_9, h_20, cZ_9, cZ_20), rfl, (trivial), by rw [ht]; exact hP9, va_K.moved hW.alike hK9, hD9⟩, hS.F ht⟩) hS.2.2 dX0_init_26
abbrev rm_c_X1_init : Room := { frames := 2, cells := 2, slots := 257, locals := 44 }
abbrev q_c_X1_init (D : va_G) (sz : Nat) (bd : Nat) : Array Value → State → Outcome → State → Prop := va_Qv (fun (w9 : (Nat × Nat × ClassId)) => match w9 with | (bS9, bH9, cM9) => True) (fun (w9 : (Nat × Nat × ClassId)) t => match w9 with | (bS9, bH9, cM9) => va_P D vwCl [(bd, .inr (3, [.ref bS9, .int (nI 0)])), (bS9, .inr (4, [.ref bH9])), (bH9, .inl (cM9, 256, .inl (aB (fun _ => false))))] t.heap ∧ va_K D vwCl [(cM9, .boolean)] t ∧ va_D (va_A [(bd, .inr (3, [.null, .int 0]))] sz) [(bd, .inr (3, [.ref bS9, .int (nI 0)])), (bS9, .inr (4, [.ref bH9])), (bH9, .inl (cM9, 256, .inl (aB (fun _ => false))))]) (va_A [(bd, .inr (3, [.null, .int 0]))] sz)
set_option maxHeartbeats 4000000 in
set_option maxRecDepth 100000 in
theorem c_X1_init (l : Launch) (D : va_G) (sz : Nat) (bd : Nat) : Met l yX1_init wsX1_init rm_c_X1_init (va_Pc [.ref bd] (fun U => U.heap.size = sz ∧ va_P D vwCl [(bd, .inr (3, [.null, .int 0]))] U.heap ∧ va_K D vwCl [] U ∧ va_D (fun _ => True) [(bd, .inr (3, [.null, .int 0]))] ∧ va_Nw (.methodLinkNest RX1 13 yX2_init "Gamefield") U)) (q_c_X1_init D sz bd) 2 257 (va_A [(bd, .inr (3, [.null, .int 0]))] sz) := by
  refine Met.ofW (cc := cX1_init) (maxL := 1) (ret := none) (by decide) rfl ?_
  intro p e s m args below meth c s₁ B hml hv
  obtain ⟨hargs, hsz, hP, hK, hD0, hx0⟩ := hv
  have hx := B.exec
  have hb := B.bytes
  have hr := B.returns
  have hts := atoms_spec (ws := wsX1_init) B.pre
  have hown : s.vm.findClass RX1 = some m.cls := findClass_of_methodNamed B.named
  have hlocks := B.notSynchronized
  have hin : meth.name = "<init>" := (name_of_methodNamed B.named B.method).1
  subst hsz
  have hD := hD0.self (sz := s.heap.size)
  generalize hAe : va_A [(bd, .inr (3, [.null, .int 0]))] s.heap.size = A at hD ⊢
  have hA : ∀ q : Nat, s.heap.size ≤ q → A q := fun q h => by rw [← hAe]; exact Or.inr h
  have hS : va_S A s.heap s.heap [] := va_S.rf
  have hl := lv_entry ([.ref bd]) (n := 1) (Nat.le_of_ble_eq_true rfl)
  refine W.eq (g2 := F0 m 0 (lg_sl ([.ref bd]) ++ List.replicate (1 - (lg_sl ([.ref bd])).length) Slot.unset).toArray []) (by rw [hargs]; exact lg_entry_eq _ _ _) ?_
  generalize (lg_sl ([.ref bd]) ++ List.replicate (1 - (lg_sl ([.ref bd])).length) Slot.unset).toArray = ls at hl ⊢
  have hl : lv_has ls 1 [(0, .ref bd)] := hl
  refine lv_aload_n hx hb dX1_init_0 rfl (lv_at hl 0 rfl) ?_
  refine W.objInit hx hb hown (hts (.methodLink RX1 5 objectInit) (by decide +kernel)) (hts (.instanceMethod objectInit) (by decide +kernel)) (hts (.code objectInit ⟨#[0xb1]⟩ 1 none) (by decide +kernel)) rfl (by rw [hml]; exact hl.1) rfl dX1_init_1 (Nat.le_of_ble_eq_true rfl) (Nat.le_of_ble_eq_true rfl) ?_
  refine W.eq (g2 := F0 m 4 ls []) rfl ?_
  refine lv_aload_n hx hb dX1_init_4 rfl (lv_at hl 0 rfl) ?_
  refine va_new (ci := 4) (fs := [.null]) (C := RX2) (T := TX2) (N := 1) hx hb hts nX1_init_inX2 tyX2 tyX2_ok hown (hts (.classLink RX1 11 RX2) (by decide +kernel)) (hts (.instantiable RX2 1) (by decide +kernel)) (hts (.initialized RX2) (by decide +kernel)) hK hP hD hS hA rfl (fun j hj => by rcases (show j = 0 by omega) with rfl <;> rfl) (Nat.le_of_ble_eq_true rfl) (Nat.le_of_ble_eq_true rfl) dX1_init_5 (fun q5 H hP hD hS => ?_)
  have hP : va_P D vwCl [(bd, .inr (3, [.null, .int 0])), (q5, .inr (4, [.null]))] H := hP
  have hD : va_D A [(bd, .inr (3, [.null, .int 0])), (q5, .inr (4, [.null]))] := hD
  refine W.widen (k := 1) (n := 1) (Nat.le_of_ble_eq_true rfl) (Nat.le_of_ble_eq_true rfl) ?_
  refine lv_dup hx hb dX1_init_8 rfl ?_
  have hPc := hP.sub (ws' := [(q5, .inr (4, [.null]))]) [1] rfl
  have hDc := hD.sub (ws' := [(q5, .inr (4, [.null]))]) [1] (by decide) rfl
  have hKc := hK.sub (tys' := []) [] rfl
  have hFc := va_free (wc := [(q5, .inr (4, [.null]))]) hD hS hA [1] rfl
  refine va_callv (va_runIN (As := []) (rest := [.ref q5, .ref bd]) ⟨hx, hb, hml, hown, hts⟩ (c_X2_init l D H.size q5 ) ⟨va_cnB (host := "Gamefield") 0 hts gX1_init_X2_init_n13 rfl rfl rfl hx0 (hts (.initialized RX2) (by decide +kernel)) (by decide +kernel) ⟨Nat.le_of_ble_eq_true rfl, Nat.le_of_ble_eq_true rfl⟩, rfl, hts (.instanceMethod yX2_init) (by decide +kernel)⟩ ⟨(z_fb2), fun U hU hW => ⟨rfl, by rw [hU], by rw [hU]; exact hPc, va_K.moved hW.alike hKc, hDc.weaken (fun _ _ _ _ => trivial)⟩⟩ rfl rfl hl.1 rfl (lv_room (Nat.le_of_ble_eq_true rfl)) dX1_init_9 ⟨Nat.le_of_ble_eq_true rfl, Nat.le_of_ble_eq_true rfl⟩) hS (fun q _ h => hFc q h) hFc (fun u9 t H locs ht hvm e9 hB hz1 hk1 hS => ?_)
  obtain ⟨h_9, cZ_9⟩ := u9
  try dsimp only at e9 hB
  obtain ⟨hP1, hK1, hD1⟩ := hB
  rw [ht] at hP1
  obtain ⟨hP, hD⟩ := va_join (wr := [(bd, .inr (3, [.null, .int 0]))]) (w1 := [(q5, .inr (4, [.ref h_9])), (h_9, .inl (cZ_9, 256, .inl (aB (fun _ => false))))]) hP hD [1] [0] rfl rfl (by decide) (by decide) hk1 hFc hP1 hD1
  have hP : va_P D vwCl [(bd, .inr (3, [.null, .int 0])), (q5, .inr (4, [.ref h_9])), (h_9, .inl (cZ_9, 256, .inl (aB (fun _ => false))))] H := hP
  have hD : va_D A [(bd, .inr (3, [.null, .int 0])), (q5, .inr (4, [.ref h_9])), (h_9, .inl (cZ_9, 256, .inl (aB (fun _ => false))))] := hD
  have hK := hK.app (va_K.moved hvm.symm hK1)
  have hK : va_K D vwCl [(cZ_9, .boolean)] s := hK
  refine W.widen (k := 2) (n := 257) (Nat.le_of_ble_eq_true rfl) (Nat.le_of_ble_eq_true rfl) ?_
  refine va_putF (D := D) (ci := 3) (v := .ref q5) (ty := .object "Gamefield$NumberSet") (C := RX1) (T := TX1) (N := 2) hx hb hts nX1_init_inX1 tyX1 tyX1_ok nmX1 hown hK hP hD hS 0 rfl rfl 0 (by decide) (hts (.fieldLink RX1 14 "Gamefield$Board" "made" "LGamefield$NumberSet;") (by decide +kernel)) (fun _ h9 => h9) rfl hin rfl (by decide +kernel) rfl rfl (Nat.le_of_ble_eq_true rfl) dX1_init_12 (fun H locs hP hD hS => ?_)
  have hP : va_P D vwCl [(bd, .inr (3, [.ref q5, .int 0])), (q5, .inr (4, [.ref h_9])), (h_9, .inl (cZ_9, 256, .inl (aB (fun _ => false))))] H := hP
  have hD : va_D A [(bd, .inr (3, [.ref q5, .int 0])), (q5, .inr (4, [.ref h_9])), (h_9, .inl (cZ_9, 256, .inl (aB (fun _ => false))))] := hD
  refine lv_aload_n hx hb dX1_init_15 rfl (lv_at hl 0 rfl) ?_
  refine lv_iconst (v := nI 0) hx hb dX1_init_16 zki_0 ?_
  refine va_put (D := D) (ci := 3) (v := .int (nI 0)) (ty := .int) (C := RX1) (T := TX1) (N := 2) hx hb hts nX1_init_inX1 tyX1 tyX1_ok nmX1 hown hK hP hD hS 0 rfl rfl 1 (by decide) (hts (.fieldLink RX1 18 "Gamefield$Board" "heads" "I") (by decide +kernel)) (fun _ h9 => h9) rfl (by decide +kernel) rfl rfl (Nat.le_of_ble_eq_true rfl) dX1_init_17 (fun H locs hP hD hS => ?_)
  have hP : va_P D vwCl [(bd, .inr (3, [.ref q5, .int (nI 0)])), (q5, .inr (4, [.ref h_9])), (h_9, .inl (cZ_9, 256, .inl (aB (fun _ => false))))] H := hP
  have hD : va_D A [(bd, .inr (3, [.ref q5, .int (nI 0)])), (q5, .inr (4, [.ref h_9])), (h_9, .inl (cZ_9, 256, .inl (aB (fun _ => false))))] := hD
  have hP9 := hP.sub (ws' := [(bd, .inr (3, [.ref q5, .int (nI 0)])), (q5, .inr (4, [.ref h_9])), (h_9, .inl (cZ_9, 256, .inl (aB (fun _ => false))))]) [0, 1, 2] rfl
  have hD9 := hD.sub (ws' := [(bd, .inr (3, [.ref q5, .int (nI 0)])), (q5, .inr (4, [.ref h_9])), (h_9, .inl (cZ_9, 256, .inl (aB (fun _ => false))))]) [0, 1, 2] (by decide) rfl
  have hK9 := hK.sub (tys' := [(cZ_9, .boolean)]) [0] rfl
  subst hAe
  refine W.widen (k := 2) (n := 257) (Nat.le_of_ble_eq_true rfl) (Nat.le_of_ble_eq_true rfl) ?_
  exact W.vret hx hb hr (fun t ht hW => ⟨⟨(q5, h_9, cZ_9), rfl, (trivial), by rw [ht]; exact hP9, va_K.moved hW.alike hK9, hD9⟩, hS.F ht⟩) hS.2.2 dX1_init_20
