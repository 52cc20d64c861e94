/-! The reference made, its outcome read, its plays refused. -/
theorem nX6_init_inX6 : ∀ w ∈ u_ws RX6 TX6 8, w ∈ wsX6_init := by decide +kernel
theorem nX6_thrown_inX6 : ∀ w ∈ u_ws RX6 TX6 8, w ∈ wsX6_thrown := by decide +kernel
theorem nX6_play_inX6 : ∀ w ∈ u_ws RX6 TX6 8, w ∈ wsX6_play := by decide +kernel
abbrev rm_c_X6_init : Room := { frames := 1, cells := 5, slots := 792, locals := 24 }
abbrev q_c_X6_init (D : va_G) (sz : Nat) (mo : Nat) : Array Value → State → Outcome → State → Prop := va_Qv (fun (w9 : (Nat × Nat × Nat × Nat × Nat × ClassId × ClassId × ClassId × ClassId × ClassId)) => match w9 with | (ra9, ca9, ha9, ba9, wa9, kr9, kc9, kh9, kb9, kw9) => True) (fun (w9 : (Nat × Nat × Nat × Nat × Nat × ClassId × ClassId × ClassId × ClassId × ClassId)) t => match w9 with | (ra9, ca9, ha9, ba9, wa9, kr9, kc9, kh9, kb9, kw9) => va_P D vwCl [(mo, .inr (8, [.int (nI 0), .ref ra9, .ref ca9, .ref ha9, .int (nI 0), .ref ba9, .int (nI 0), .ref wa9])), (ra9, .inl (kr9, 8, .inl (aN (fun _ => 0)))), (ca9, .inl (kc9, 8, .inl (aN (fun _ => 0)))), (ha9, .inl (kh9, 8, .inl (aN (fun _ => 0)))), (ba9, .inl (kb9, 256, .inl (aB (fun _ => false)))), (wa9, .inl (kw9, 512, .inl (aN (fun _ => 0))))] t.heap ∧ va_K D vwCl [(kr9, .int), (kc9, .int), (kh9, .int), (kb9, .boolean), (kw9, .int)] t ∧ va_D (va_A [(mo, .inr (8, [.int 0, .null, .null, .null, .int 0, .null, .int 0, .null]))] sz) [(mo, .inr (8, [.int (nI 0), .ref ra9, .ref ca9, .ref ha9, .int (nI 0), .ref ba9, .int (nI 0), .ref wa9])), (ra9, .inl (kr9, 8, .inl (aN (fun _ => 0)))), (ca9, .inl (kc9, 8, .inl (aN (fun _ => 0)))), (ha9, .inl (kh9, 8, .inl (aN (fun _ => 0)))), (ba9, .inl (kb9, 256, .inl (aB (fun _ => false)))), (wa9, .inl (kw9, 512, .inl (aN (fun _ => 0))))]) (va_A [(mo, .inr (8, [.int 0, .null, .null, .null, .int 0, .null, .int 0, .null]))] sz)
set_option maxHeartbeats 4000000 in
set_option maxRecDepth 100000 in
theorem c_X6_init (l : Launch) (D : va_G) (sz : Nat) (mo : Nat) : Met l yX6_init wsX6_init rm_c_X6_init (va_Pc [.ref mo] (fun U => U.heap.size = sz ∧ va_P D vwCl [(mo, .inr (8, [.int 0, .null, .null, .null, .int 0, .null, .int 0, .null]))] U.heap ∧ va_K D vwCl [] U ∧ va_D (fun _ => True) [(mo, .inr (8, [.int 0, .null, .null, .null, .int 0, .null, .int 0, .null]))])) (q_c_X6_init D sz mo) 5 792 (va_A [(mo, .inr (8, [.int 0, .null, .null, .null, .int 0, .null, .int 0, .null]))] sz) := by
  refine Met.ofW (cc := cX6_init) (maxL := 1) (ret := none) (by decide) rfl ?_
  intro p e s m args below meth c s₁ B hml hv
  obtain ⟨hargs, hsz, hP, hK, hD0⟩ := hv
  have hx := B.exec
  have hb := B.bytes
  have hr := B.returns
  have hts := atoms_spec (ws := wsX6_init) B.pre
  have hown : s.vm.findClass RX6 = some m.cls := findClass_of_methodNamed B.named
  have hlocks := B.notSynchronized
  have hin : meth.name = "<init>" := (name_of_methodNamed B.named B.method).1
  subst hsz
  have hD := hD0.self (sz := s.heap.size)
  generalize hAe : va_A [(mo, .inr (8, [.int 0, .null, .null, .null, .int 0, .null, .int 0, .null]))] s.heap.size = A at hD ⊢
  have hA : ∀ q : Nat, s.heap.size ≤ q → A q := fun q h => by rw [← hAe]; exact Or.inr h
  have hS : va_S A s.heap s.heap [] := va_S.rf
  have hl := lv_entry ([.ref mo]) (n := 1) (Nat.le_of_ble_eq_true rfl)
  refine W.eq (g2 := F0 m 0 (lg_sl ([.ref mo]) ++ List.replicate (1 - (lg_sl ([.ref mo])).length) Slot.unset).toArray []) (by rw [hargs]; exact lg_entry_eq _ _ _) ?_
  generalize (lg_sl ([.ref mo]) ++ List.replicate (1 - (lg_sl ([.ref mo])).length) Slot.unset).toArray = ls at hl ⊢
  have hl : lv_has ls 1 [(0, .ref mo)] := hl
  refine lv_aload_n hx hb dX6_init_0 rfl (lv_at hl 0 rfl) ?_
  refine W.objInit hx hb hown (hts (.methodLink RX6 1 objectInit) (by decide +kernel)) (hts (.instanceMethod objectInit) (by decide +kernel)) (hts (.code objectInit ⟨#[0xb1]⟩ 1 none) (by decide +kernel)) rfl (by rw [hml]; exact hl.1) rfl dX6_init_1 (Nat.le_of_ble_eq_true rfl) (Nat.le_of_ble_eq_true rfl) ?_
  refine W.eq (g2 := F0 m 4 ls []) rfl ?_
  refine lv_aload_n hx hb dX6_init_4 rfl (lv_at hl 0 rfl) ?_
  refine lv_bipush (v := nI 8) hx hb dX6_init_5 zkb_8 ?_
  refine va_newa (atype := .int) (N' := 8) (a0 := (8, .inl (aN (fun _ => 0)))) hx hb (hts (.arrayClass .int) (by decide +kernel)) rfl hK hP hD hS hA (fun _ => rfl) (z_npos (by decide)) (nI_clamp (by decide)) (by decide) (Nat.le_of_ble_eq_true rfl) (Nat.le_of_ble_eq_true rfl) dX6_init_7 (fun q7 cA7 H hK hP hD hS => ?_)
  have hK : va_K D vwCl [(cA7, .int)] s := hK
  have hP : va_P D vwCl [(mo, .inr (8, [.int 0, .null, .null, .null, .int 0, .null, .int 0, .null])), (q7, .inl (cA7, 8, .inl (aN (fun _ => 0))))] H := hP
  have hD : va_D A [(mo, .inr (8, [.int 0, .null, .null, .null, .int 0, .null, .int 0, .null])), (q7, .inl (cA7, 8, .inl (aN (fun _ => 0))))] := hD
  refine W.widen (k := 1) (n := 8) (Nat.le_of_ble_eq_true rfl) (Nat.le_of_ble_eq_true rfl) ?_
  refine va_putF (D := D) (ci := 8) (v := .ref q7) (ty := .array .int) (C := RX6) (T := TX6) (N := 8) hx hb hts nX6_init_inX6 tyX6 tyX6_ok nmX6 hown hK hP hD hS 0 rfl rfl 1 (by decide) (hts (.fieldLink RX6 9 "GamefieldModel" "registers" "[I") (by decide +kernel)) (fun _ h9 => h9) rfl hin rfl (by decide +kernel) rfl rfl (Nat.le_of_ble_eq_true rfl) dX6_init_9 (fun H locs hP hD hS => ?_)
  have hP : va_P D vwCl [(mo, .inr (8, [.int 0, .ref q7, .null, .null, .int 0, .null, .int 0, .null])), (q7, .inl (cA7, 8, .inl (aN (fun _ => 0))))] H := hP
  have hD : va_D A [(mo, .inr (8, [.int 0, .ref q7, .null, .null, .int 0, .null, .int 0, .null])), (q7, .inl (cA7, 8, .inl (aN (fun _ => 0))))] := hD
  refine lv_aload_n hx hb dX6_init_12 rfl (lv_at hl 0 rfl) ?_
  refine lv_bipush (v := nI 8) hx hb dX6_init_13 zkb_8 ?_
  refine va_newa (atype := .int) (N' := 8) (a0 := (8, .inl (aN (fun _ => 0)))) hx hb (hts (.arrayClass .int) (by decide +kernel)) rfl hK hP hD hS hA (fun _ => rfl) (z_npos (by decide)) (nI_clamp (by decide)) (by decide) (Nat.le_of_ble_eq_true rfl) (Nat.le_of_ble_eq_true rfl) dX6_init_15 (fun q15 cA15 H hK hP hD hS => ?_)
  have hK : va_K D vwCl [(cA7, .int), (cA15, .int)] s := hK
  have hP : va_P D vwCl [(mo, .inr (8, [.int 0, .ref q7, .null, .null, .int 0, .null, .int 0, .null])), (q7, .inl (cA7, 8, .inl (aN (fun _ => 0)))), (q15, .inl (cA15, 8, .inl (aN (fun _ => 0))))] H := hP
  have hD : va_D A [(mo, .inr (8, [.int 0, .ref q7, .null, .null, .int 0, .null, .int 0, .null])), (q7, .inl (cA7, 8, .inl (aN (fun _ => 0)))), (q15, .inl (cA15, 8, .inl (aN (fun _ => 0))))] := hD
  refine W.widen (k := 2) (n := 16) (Nat.le_of_ble_eq_true rfl) (Nat.le_of_ble_eq_true rfl) ?_
  refine va_putF (D := D) (ci := 8) (v := .ref q15) (ty := .array .int) (C := RX6) (T := TX6) (N := 8) hx hb hts nX6_init_inX6 tyX6 tyX6_ok nmX6 hown hK hP hD hS 0 rfl rfl 2 (by decide) (hts (.fieldLink RX6 13 "GamefieldModel" "changed" "[I") (by decide +kernel)) (fun _ h9 => h9) rfl hin rfl (by decide +kernel) rfl rfl (Nat.le_of_ble_eq_true rfl) dX6_init_17 (fun H locs hP hD hS => ?_)
  have hP : va_P D vwCl [(mo, .inr (8, [.int 0, .ref q7, .ref q15, .null, .int 0, .null, .int 0, .null])), (q7, .inl (cA7, 8, .inl (aN (fun _ => 0)))), (q15, .inl (cA15, 8, .inl (aN (fun _ => 0))))] H := hP
  have hD : va_D A [(mo, .inr (8, [.int 0, .ref q7, .ref q15, .null, .int 0, .null, .int 0, .null])), (q7, .inl (cA7, 8, .inl (aN (fun _ => 0)))), (q15, .inl (cA15, 8, .inl (aN (fun _ => 0))))] := hD
  refine lv_aload_n hx hb dX6_init_20 rfl (lv_at hl 0 rfl) ?_
  refine lv_bipush (v := nI 8) hx hb dX6_init_21 zkb_8 ?_
  refine va_newa (atype := .int) (N' := 8) (a0 := (8, .inl (aN (fun _ => 0)))) hx hb (hts (.arrayClass .int) (by decide +kernel)) rfl hK hP hD hS hA (fun _ => rfl) (z_npos (by decide)) (nI_clamp (by decide)) (by decide) (Nat.le_of_ble_eq_true rfl) (Nat.le_of_ble_eq_true rfl) dX6_init_23 (fun q23 cA23 H hK hP hD hS => ?_)
  have hK : va_K D vwCl [(cA7, .int), (cA15, .int), (cA23, .int)] s := hK
  have hP : va_P D vwCl [(mo, .inr (8, [.int 0, .ref q7, .ref q15, .null, .int 0, .null, .int 0, .null])), (q7, .inl (cA7, 8, .inl (aN (fun _ => 0)))), (q15, .inl (cA15, 8, .inl (aN (fun _ => 0)))), (q23, .inl (cA23, 8, .inl (aN (fun _ => 0))))] H := hP
  have hD : va_D A [(mo, .inr (8, [.int 0, .ref q7, .ref q15, .null, .int 0, .null, .int 0, .null])), (q7, .inl (cA7, 8, .inl (aN (fun _ => 0)))), (q15, .inl (cA15, 8, .inl (aN (fun _ => 0)))), (q23, .inl (cA23, 8, .inl (aN (fun _ => 0))))] := hD
  refine W.widen (k := 3) (n := 24) (Nat.le_of_ble_eq_true rfl) (Nat.le_of_ble_eq_true rfl) ?_
  refine va_putF (D := D) (ci := 8) (v := .ref q23) (ty := .array .int) (C := RX6) (T := TX6) (N := 8) hx hb hts nX6_init_inX6 tyX6 tyX6_ok nmX6 hown hK hP hD hS 0 rfl rfl 3 (by decide) (hts (.fieldLink RX6 16 "GamefieldModel" "had" "[I") (by decide +kernel)) (fun _ h9 => h9) rfl hin rfl (by decide +kernel) rfl rfl (Nat.le_of_ble_eq_true rfl) dX6_init_25 (fun H locs hP hD hS => ?_)
  have hP : va_P D vwCl [(mo, .inr (8, [.int 0, .ref q7, .ref q15, .ref q23, .int 0, .null, .int 0, .null])), (q7, .inl (cA7, 8, .inl (aN (fun _ => 0)))), (q15, .inl (cA15, 8, .inl (aN (fun _ => 0)))), (q23, .inl (cA23, 8, .inl (aN (fun _ => 0))))] H := hP
  have hD : va_D A [(mo, .inr (8, [.int 0, .ref q7, .ref q15, .ref q23, .int 0, .null, .int 0, .null])), (q7, .inl (cA7, 8, .inl (aN (fun _ => 0)))), (q15, .inl (cA15, 8, .inl (aN (fun _ => 0)))), (q23, .inl (cA23, 8, .inl (aN (fun _ => 0))))] := hD
  refine lv_aload_n hx hb dX6_init_28 rfl (lv_at hl 0 rfl) ?_
  refine lv_sipush (v := nI 256) hx hb dX6_init_29 zks_256 ?_
  refine va_newa (atype := .boolean) (N' := 256) (a0 := (256, .inl (aB (fun _ => false)))) hx hb (hts (.arrayClass .boolean) (by decide +kernel)) rfl hK hP hD hS hA (fun _ => rfl) (z_npos (by decide)) (nI_clamp (by decide)) (by decide) (Nat.le_of_ble_eq_true rfl) (Nat.le_of_ble_eq_true rfl) dX6_init_32 (fun q32 cA32 H hK hP hD hS => ?_)
  have hK : va_K D vwCl [(cA7, .int), (cA15, .int), (cA23, .int), (cA32, .boolean)] s := hK
  have hP : va_P D vwCl [(mo, .inr (8, [.int 0, .ref q7, .ref q15, .ref q23, .int 0, .null, .int 0, .null])), (q7, .inl (cA7, 8, .inl (aN (fun _ => 0)))), (q15, .inl (cA15, 8, .inl (aN (fun _ => 0)))), (q23, .inl (cA23, 8, .inl (aN (fun _ => 0)))), (q32, .inl (cA32, 256, .inl (aB (fun _ => false))))] H := hP
  have hD : va_D A [(mo, .inr (8, [.int 0, .ref q7, .ref q15, .ref q23, .int 0, .null, .int 0, .null])), (q7, .inl (cA7, 8, .inl (aN (fun _ => 0)))), (q15, .inl (cA15, 8, .inl (aN (fun _ => 0)))), (q23, .inl (cA23, 8, .inl (aN (fun _ => 0)))), (q32, .inl (cA32, 256, .inl (aB (fun _ => false))))] := hD
  refine W.widen (k := 4) (n := 280) (Nat.le_of_ble_eq_true rfl) (Nat.le_of_ble_eq_true rfl) ?_
  refine va_putF (D := D) (ci := 8) (v := .ref q32) (ty := .array .boolean) (C := RX6) (T := TX6) (N := 8) hx hb hts nX6_init_inX6 tyX6 tyX6_ok nmX6 hown hK hP hD hS 0 rfl rfl 5 (by decide) (hts (.fieldLink RX6 19 "GamefieldModel" "basket" "[Z") (by decide +kernel)) (fun _ h9 => h9) rfl hin rfl (by decide +kernel) rfl rfl (Nat.le_of_ble_eq_true rfl) dX6_init_34 (fun H locs hP hD hS => ?_)
  have hP : va_P D vwCl [(mo, .inr (8, [.int 0, .ref q7, .ref q15, .ref q23, .int 0, .ref q32, .int 0, .null])), (q7, .inl (cA7, 8, .inl (aN (fun _ => 0)))), (q15, .inl (cA15, 8, .inl (aN (fun _ => 0)))), (q23, .inl (cA23, 8, .inl (aN (fun _ => 0)))), (q32, .inl (cA32, 256, .inl (aB (fun _ => false))))] H := hP
  have hD : va_D A [(mo, .inr (8, [.int 0, .ref q7, .ref q15, .ref q23, .int 0, .ref q32, .int 0, .null])), (q7, .inl (cA7, 8, .inl (aN (fun _ => 0)))), (q15, .inl (cA15, 8, .inl (aN (fun _ => 0)))), (q23, .inl (cA23, 8, .inl (aN (fun _ => 0)))), (q32, .inl (cA32, 256, .inl (aB (fun _ => false))))] := hD
  refine lv_aload_n hx hb dX6_init_37 rfl (lv_at hl 0 rfl) ?_
  refine lv_sipush (v := nI 512) hx hb dX6_init_38 zks_512 ?_
  refine va_newa (atype := .int) (N' := 512) (a0 := (512, .inl (aN (fun _ => 0)))) hx hb (hts (.arrayClass .int) (by decide +kernel)) rfl hK hP hD hS hA (fun _ => rfl) (z_npos (by decide)) (nI_clamp (by decide)) (by decide) (Nat.le_of_ble_eq_true rfl) (Nat.le_of_ble_eq_true rfl) dX6_init_41 (fun q41 cA41 H hK hP hD hS => ?_)
  have hK : va_K D vwCl [(cA7, .int), (cA15, .int), (cA23, .int), (cA32, .boolean), (cA41, .int)] s := hK
  have hP : va_P D vwCl [(mo, .inr (8, [.int 0, .ref q7, .ref q15, .ref q23, .int 0, .ref q32, .int 0, .null])), (q7, .inl (cA7, 8, .inl (aN (fun _ => 0)))), (q15, .inl (cA15, 8, .inl (aN (fun _ => 0)))), (q23, .inl (cA23, 8, .inl (aN (fun _ => 0)))), (q32, .inl (cA32, 256, .inl (aB (fun _ => false)))), (q41, .inl (cA41, 512, .inl (aN (fun _ => 0))))] H := hP
  have hD : va_D A [(mo, .inr (8, [.int 0, .ref q7, .ref q15, .ref q23, .int 0, .ref q32, .int 0, .null])), (q7, .inl (cA7, 8, .inl (aN (fun _ => 0)))), (q15, .inl (cA15, 8, .inl (aN (fun _ => 0)))), (q23, .inl (cA23, 8, .inl (aN (fun _ => 0)))), (q32, .inl (cA32, 256, .inl (aB (fun _ => false)))), (q41, .inl (cA41, 512, .inl (aN (fun _ => 0))))] := hD
  refine W.widen (k := 5) (n := 792) (Nat.le_of_ble_eq_true rfl) (Nat.le_of_ble_eq_true rfl) ?_
  refine va_putF (D := D) (ci := 8) (v := .ref q41) (ty := .array .int) (C := RX6) (T := TX6) (N := 8) hx hb hts nX6_init_inX6 tyX6 tyX6_ok nmX6 hown hK hP hD hS 0 rfl rfl 7 (by decide) (hts (.fieldLink RX6 23 "GamefieldModel" "worths" "[I") (by decide +kernel)) (fun _ h9 => h9) rfl hin rfl (by decide +kernel) rfl rfl (Nat.le_of_ble_eq_true rfl) dX6_init_43 (fun H locs hP hD hS => ?_)
  have hP : va_P D vwCl [(mo, .inr (8, [.int 0, .ref q7, .ref q15, .ref q23, .int 0, .ref q32, .int 0, .ref q41])), (q7, .inl (cA7, 8, .inl (aN (fun _ => 0)))), (q15, .inl (cA15, 8, .inl (aN (fun _ => 0)))), (q23, .inl (cA23, 8, .inl (aN (fun _ => 0)))), (q32, .inl (cA32, 256, .inl (aB (fun _ => false)))), (q41, .inl (cA41, 512, .inl (aN (fun _ => 0))))] H := hP
  have hD : va_D A [(mo, .inr (8, [.int 0, .ref q7, .ref q15, .ref q23, .int 0, .ref q32, .int 0, .ref q41])), (q7, .inl (cA7, 8, .inl (aN (fun _ => 0)))), (q15, .inl (cA15, 8, .inl (aN (fun _ => 0)))), (q23, .inl (cA23, 8, .inl (aN (fun _ => 0)))), (q32, .inl (cA32, 256, .inl (aB (fun _ => false)))), (q41, .inl (cA41, 512, .inl (aN (fun _ => 0))))] := hD
  have hP9 := hP.sub (ws' := [(mo, .inr (8, [.int 0, .ref q7, .ref q15, .ref q23, .int 0, .ref q32, .int 0, .ref q41])), (q7, .inl (cA7, 8, .inl (aN (fun _ => 0)))), (q15, .inl (cA15, 8, .inl (aN (fun _ => 0)))), (q23, .inl (cA23, 8, .inl (aN (fun _ => 0)))), (q32, .inl (cA32, 256, .inl (aB (fun _ => false)))), (q41, .inl (cA41, 512, .inl (aN (fun _ => 0))))]) [0, 1, 2, 3, 4, 5] rfl
  have hD9 := hD.sub (ws' := [(mo, .inr (8, [.int 0, .ref q7, .ref q15, .ref q23, .int 0, .ref q32, .int 0, .ref q41])), (q7, .inl (cA7, 8, .inl (aN (fun _ => 0)))), (q15, .inl (cA15, 8, .inl (aN (fun _ => 0)))), (q23, .inl (cA23, 8, .inl (aN (fun _ => 0)))), (q32, .inl (cA32, 256, .inl (aB (fun _ => false)))), (q41, .inl (cA41, 512, .inl (aN (fun _ => 0))))]) [0, 1, 2, 3, 4, 5] (by decide) rfl
  have hK9 := hK.sub (tys' := [(cA7, .int), (cA15, .int), (cA23, .int), (cA32, .boolean), (cA41, .int)]) [0, 1, 2, 3, 4] rfl
  subst hAe
  refine W.widen (k := 5) (n := 792) (Nat.le_of_ble_eq_true rfl) (Nat.le_of_ble_eq_true rfl) ?_
  exact W.vret hx hb hr (fun t ht hW => ⟨⟨(q7, q15, q23, q32, q41, cA7, cA15, cA23, cA32, cA41), rfl, (trivial), by rw [ht]; exact hP9, va_K.moved hW.alike hK9, hD9⟩, hS.F ht⟩) hS.2.2 dX6_init_46
abbrev rm_c_X6_thrown : Room := { frames := 0, cells := 0, slots := 0, locals := 0 }
abbrev q_c_X6_thrown (D : va_G) (mo : Nat) (ra : Nat) (ca : Nat) (ha : Nat) (ba : Nat) (wa : Nat) (kp : Nat) (hd : Nat) (th : Nat) : Array Value → State → Outcome → State → Prop := vp_Si (fun r => r = (nI th))
set_option maxHeartbeats 4000000 in
set_option maxRecDepth 100000 in
theorem c_X6_thrown (l : Launch) (D : va_G) (mo : Nat) (ra : Nat) (ca : Nat) (ha : Nat) (ba : Nat) (wa : Nat) (kp : Nat) (hd : Nat) (th : Nat) : Met l yX6_thrown wsX6_thrown rm_c_X6_thrown (va_Pc [.ref mo] (fun U => va_P D vwCl [(mo, .inr (8, [.int (nI th), .ref ra, .ref ca, .ref ha, .int (nI kp), .ref ba, .int (nI hd), .ref wa]))] U.heap ∧ va_K D vwCl [] U)) (q_c_X6_thrown D mo ra ca ha ba wa kp hd th) 0 0 (fun _ => False) := by
  refine Met.ofW (cc := cX6_thrown) (maxL := 1) (ret := (some .int)) (by decide) rfl ?_
  intro p e s m args below meth c s₁ B hml hv
  obtain ⟨hargs, hP, hK⟩ := hv
  have hx := B.exec
  have hb := B.bytes
  have hr := B.returns
  have hts := atoms_spec (ws := wsX6_thrown) B.pre
  have hown : s.vm.findClass RX6 = some m.cls := findClass_of_methodNamed B.named
  have hlocks := B.notSynchronized
  have hl := lv_entry ([.ref mo]) (n := 1) (Nat.le_of_ble_eq_true rfl)
  refine W.eq (g2 := F0 m 0 (lg_sl ([.ref mo]) ++ List.replicate (1 - (lg_sl ([.ref mo])).length) Slot.unset).toArray []) (by rw [hargs]; exact lg_entry_eq _ _ _) ?_
  generalize (lg_sl ([.ref mo]) ++ List.replicate (1 - (lg_sl ([.ref mo])).length) Slot.unset).toArray = ls at hl ⊢
  have hl : lv_has ls 1 [(0, .ref mo)] := hl
  refine lv_aload_n hx hb dX6_thrown_0 rfl (lv_at hl 0 rfl) ?_
  refine va_get (D := D) (ci := 8) (v := .int (nI th)) (C := RX6) (T := TX6) (N := 8) hx hb hts nX6_thrown_inX6 hown hK hP 0 rfl rfl 0 (by decide) (hts (.fieldLink RX6 26 "GamefieldModel" "thrown" "I") (by decide +kernel)) (fun _ h9 => h9) rfl dX6_thrown_1 ?_
  exact W.iret hx hb hr (fun t ht _ => ⟨_, rfl, (rfl), ht⟩) (fun _ h => nomatch h) dX6_thrown_4
abbrev rm_c_X6_play_no : Room := { frames := 1, cells := 0, slots := 0, locals := 22 }
abbrev q_c_X6_play_no (D : va_G) (sz : Nat) (mo : Nat) (ra : Nat) (ca : Nat) (ha : Nat) (ba : Nat) (wa : Nat) (kp : Nat) (hd : Nat) (th : Nat) (x0 : Int32) (x1 : Int32) (x2 : Int32) (x3 : Int32) : Array Value → State → Outcome → State → Prop := va_Qi (fun r (_ : Unit) => r = (nI 0)) (fun (_ : Unit) t => va_P D vwCl [(mo, .inr (8, [.int (nI 1), .ref ra, .ref ca, .ref ha, .int (nI kp), .ref ba, .int (nI hd), .ref wa]))] t.heap ∧ va_K D vwCl [] t ∧ va_D (va_A [(mo, .inr (8, [.int (nI th), .ref ra, .ref ca, .ref ha, .int (nI kp), .ref ba, .int (nI hd), .ref wa]))] sz) [(mo, .inr (8, [.int (nI 1), .ref ra, .ref ca, .ref ha, .int (nI kp), .ref ba, .int (nI hd), .ref wa]))]) (va_A [(mo, .inr (8, [.int (nI th), .ref ra, .ref ca, .ref ha, .int (nI kp), .ref ba, .int (nI hd), .ref wa]))] sz)
set_option maxHeartbeats 4000000 in
set_option maxRecDepth 100000 in
theorem c_X6_play_no (l : Launch) (D : va_G) (sz : Nat) (mo : Nat) (ra : Nat) (ca : Nat) (ha : Nat) (ba : Nat) (wa : Nat) (kp : Nat) (hd : Nat) (th : Nat) (x0 : Int32) (x1 : Int32) (x2 : Int32) (x3 : Int32) (hno : ok4 x0 x1 x2 x3 = false) : Met l yX6_play wsX6_play rm_c_X6_play_no (va_Pc [.ref mo, .int x0, .int x1, .int x2, .int x3] (fun U => U.heap.size = sz ∧ va_P D vwCl [(mo, .inr (8, [.int (nI th), .ref ra, .ref ca, .ref ha, .int (nI kp), .ref ba, .int (nI hd), .ref wa]))] U.heap ∧ va_K D vwCl [] U ∧ va_D (fun _ => True) [(mo, .inr (8, [.int (nI th), .ref ra, .ref ca, .ref ha, .int (nI kp), .ref ba, .int (nI hd), .ref wa]))])) (q_c_X6_play_no D sz mo ra ca ha ba wa kp hd th x0 x1 x2 x3) 0 0 (va_A [(mo, .inr (8, [.int (nI th), .ref ra, .ref ca, .ref ha, .int (nI kp), .ref ba, .int (nI hd), .ref wa]))] sz) := by
  refine Met.ofW (cc := cX6_play) (maxL := 5) (ret := (some .int)) (by decide) rfl ?_
  intro p e s m args below meth c s₁ B hml hv
  obtain ⟨hargs, hsz, hP, hK, hD0⟩ := hv
  have hx := B.exec
  have hb := B.bytes
  have hr := B.returns
  have hts := atoms_spec (ws := wsX6_play) B.pre
  have hown : s.vm.findClass RX6 = some m.cls := findClass_of_methodNamed B.named
  have hlocks := B.notSynchronized
  subst hsz
  have hD := hD0.self (sz := s.heap.size)
  generalize hAe : va_A [(mo, .inr (8, [.int (nI th), .ref ra, .ref ca, .ref ha, .int (nI kp), .ref ba, .int (nI hd), .ref wa]))] s.heap.size = A at hD ⊢
  have hA : ∀ q : Nat, s.heap.size ≤ q → A q := fun q h => by rw [← hAe]; exact Or.inr h
  have hS : va_S A s.heap s.heap [] := va_S.rf
  have hl := lv_entry ([.ref mo, .int x0, .int x1, .int x2, .int x3]) (n := 5) (Nat.le_of_ble_eq_true rfl)
  refine W.eq (g2 := F0 m 0 (lg_sl ([.ref mo, .int x0, .int x1, .int x2, .int x3]) ++ List.replicate (5 - (lg_sl ([.ref mo, .int x0, .int x1, .int x2, .int x3])).length) Slot.unset).toArray []) (by rw [hargs]; exact lg_entry_eq _ _ _) ?_
  generalize (lg_sl ([.ref mo, .int x0, .int x1, .int x2, .int x3]) ++ List.replicate (5 - (lg_sl ([.ref mo, .int x0, .int x1, .int x2, .int x3])).length) Slot.unset).toArray = ls at hl ⊢
  have hl : lv_has ls 5 [(0, .ref mo), (1, .int x0), (2, .int x1), (3, .int x2), (4, .int x3)] := hl
  refine lv_aload_n hx hb dX6_play_0 rfl (lv_at hl 0 rfl) ?_
  refine lv_iconst (v := nI 0) hx hb dX6_play_1 zki_0 ?_
  refine va_put (D := D) (ci := 8) (v := .int (nI 0)) (ty := .int) (C := RX6) (T := TX6) (N := 8) hx hb hts nX6_play_inX6 tyX6 tyX6_ok nmX6 hown hK hP hD hS 0 rfl rfl 0 (by decide) (hts (.fieldLink RX6 26 "GamefieldModel" "thrown" "I") (by decide +kernel)) (fun _ h9 => h9) rfl (by decide +kernel) rfl rfl (Nat.le_of_ble_eq_true rfl) dX6_play_2 (fun H locs hP hD hS => ?_)
  have hP : va_P D vwCl [(mo, .inr (8, [.int (nI 0), .ref ra, .ref ca, .ref ha, .int (nI kp), .ref ba, .int (nI hd), .ref wa]))] H := hP
  have hD : va_D A [(mo, .inr (8, [.int (nI 0), .ref ra, .ref ca, .ref ha, .int (nI kp), .ref ba, .int (nI hd), .ref wa]))] := hD
  refine lv_aload_n hx hb dX6_play_5 rfl (lv_at hl 0 rfl) ?_
  refine lv_iload_n hx hb dX6_play_6 rfl (lv_at hl 1 rfl) ?_
  refine lv_iload_n hx hb dX6_play_7 rfl (lv_at hl 2 rfl) ?_
  refine z_ci (va_runS (As := [.int x0, .int x1]) (rest := [.ref mo]) ⟨hx, hb, hml, hown, hts⟩ (c_X6_isPlace l D x0 x1 ) (va_cwS 2 hts gX6_play_X6_isPlace rfl rfl rfl (by decide +kernel) ⟨Nat.le_of_ble_eq_true rfl, Nat.le_of_ble_eq_true rfl⟩) ⟨z_fb0, fun U hU hW => ⟨rfl, trivial⟩⟩ rfl rfl hl.1 rfl (lv_room (Nat.le_of_ble_eq_true rfl)) dX6_play_8 ⟨Nat.le_of_ble_eq_true rfl, Nat.le_of_ble_eq_true rfl⟩) (fun r8 e8 => ?_)
  subst e8
  refine z_beq (tgt := 23) hx hb dX6_play_11 (by decide) (fun c_11 => ?_) (fun c_11 => ?_)
  · refine lv_iconst (v := nI 1) hx hb dX6_play_23 zki_1 ?_
    refine lv_goto (tgt := 28) hx hb dX6_play_24 (by decide) ?_
    refine lv_iconst (v := nI 1) hx hb dX6_play_28 zki_1 ?_
    have hPc := hP.sub (ws' := [(mo, .inr (8, [.int (nI 0), .ref ra, .ref ca, .ref ha, .int (nI kp), .ref ba, .int (nI hd), .ref wa]))]) [0] rfl
    have hDc := hD.sub (ws' := [(mo, .inr (8, [.int (nI 0), .ref ra, .ref ca, .ref ha, .int (nI kp), .ref ba, .int (nI hd), .ref wa]))]) [0] (by decide) rfl
    have hKc := hK.sub (tys' := []) [] rfl
    have hFc := va_free (wc := [(mo, .inr (8, [.int (nI 0), .ref ra, .ref ca, .ref ha, .int (nI kp), .ref ba, .int (nI hd), .ref wa]))]) hD hS hA [0] rfl
    refine va_calli (va_runV (As := [.int (nI 1), .int (nI 1)]) (rest := []) ⟨hx, hb, hml, hown, hts⟩ (c_X6_fails_true l D H.size mo ra ca ha ba wa kp hd 1 (by omega) (by omega)) (cwV 2 hts gX6_play_X6_fails rfl rfl rfl (by decide +kernel) ⟨Nat.le_of_ble_eq_true rfl, Nat.le_of_ble_eq_true rfl⟩) ⟨(z_fb2), va_recv hK hP (ci := 8) (q0 := 0) rfl rfl, fun U hU hW => ⟨rfl, by rw [hU], by rw [hU]; exact hPc, va_K.moved hW.alike hKc, hDc.weaken (fun _ _ _ _ => trivial)⟩⟩ rfl rfl hl.1 rfl (lv_room (Nat.le_of_ble_eq_true rfl)) dX6_play_29 ⟨Nat.le_of_ble_eq_true rfl, Nat.le_of_ble_eq_true rfl⟩) hS (fun q _ h => hFc q h) hFc (fun r29 u29 t H locs ht hvm e29 hB hz1 hk1 hS => ?_)
    obtain ⟨hP1, hK1, hD1⟩ := hB
    rw [ht] at hP1
    obtain ⟨hP, hD⟩ := va_join (wr := []) (w1 := [(mo, .inr (8, [.int (nI 1), .ref ra, .ref ca, .ref ha, .int (nI kp), .ref ba, .int (nI hd), .ref wa]))]) hP hD [0] [] rfl rfl (by decide) (by decide) hk1 hFc hP1 hD1
    have hP : va_P D vwCl [(mo, .inr (8, [.int (nI 1), .ref ra, .ref ca, .ref ha, .int (nI kp), .ref ba, .int (nI hd), .ref wa]))] H := hP
    have hD : va_D A [(mo, .inr (8, [.int (nI 1), .ref ra, .ref ca, .ref ha, .int (nI kp), .ref ba, .int (nI hd), .ref wa]))] := hD
    refine W.widen (k := 0) (n := 0) (Nat.le_of_ble_eq_true rfl) (Nat.le_of_ble_eq_true rfl) ?_
    subst e29
    refine z_bne (tgt := 71) hx hb dX6_play_32 (by decide) (fun c_32 => ?_) (fun c_32 => absurd c_32 (by decide))
    refine lv_iconst (v := nI 0) hx hb dX6_play_71 zki_0 ?_
    have hP9 := hP.sub (ws' := [(mo, .inr (8, [.int (nI 1), .ref ra, .ref ca, .ref ha, .int (nI kp), .ref ba, .int (nI hd), .ref wa]))]) [0] rfl
    have hD9 := hD.sub (ws' := [(mo, .inr (8, [.int (nI 1), .ref ra, .ref ca, .ref ha, .int (nI kp), .ref ba, .int (nI hd), .ref wa]))]) [0] (by decide) rfl
    have hK9 := hK.sub (tys' := []) [] rfl
    subst hAe
    refine W.widen (k := 0) (n := 0) (Nat.le_of_ble_eq_true rfl) (Nat.le_of_ble_eq_true rfl) ?_
    exact W.iret hx hb hr (fun t ht hW => ⟨⟨_, (), rfl, (rfl), by rw [ht]; exact hP9, va_K.moved hW.alike hK9, hD9⟩, hS.F ht⟩) hS.2.2 dX6_play_72
  · refine lv_iload_n hx hb dX6_play_14 rfl (lv_at hl 3 rfl) ?_
    refine lv_iload hx hb dX6_play_15 (lv_at hl 4 rfl) ?_
    refine z_ci (va_runS (As := [.int x2, .int x3]) (rest := [.ref mo]) ⟨hx, hb, hml, hown, hts⟩ (c_X6_isPlace l D x2 x3 ) (va_cwS 2 hts gX6_play_X6_isPlace rfl rfl rfl (by decide +kernel) ⟨Nat.le_of_ble_eq_true rfl, Nat.le_of_ble_eq_true rfl⟩) ⟨z_fb0, fun U hU hW => ⟨rfl, trivial⟩⟩ rfl rfl hl.1 rfl (lv_room (Nat.le_of_ble_eq_true rfl)) dX6_play_17 ⟨Nat.le_of_ble_eq_true rfl, Nat.le_of_ble_eq_true rfl⟩) (fun r17 e17 => ?_)
    subst e17
    refine z_bne (tgt := 27) hx hb dX6_play_20 (by decide) (fun c_20 => absurd (hno.symm.trans (by unfold ok4; rw [c_11, c_20])) (by decide)) (fun c_20 => ?_)
    refine lv_iconst (v := nI 1) hx hb dX6_play_23 zki_1 ?_
    refine lv_goto (tgt := 28) hx hb dX6_play_24 (by decide) ?_
    refine lv_iconst (v := nI 1) hx hb dX6_play_28 zki_1 ?_
    have hPc := hP.sub (ws' := [(mo, .inr (8, [.int (nI 0), .ref ra, .ref ca, .ref ha, .int (nI kp), .ref ba, .int (nI hd), .ref wa]))]) [0] rfl
    have hDc := hD.sub (ws' := [(mo, .inr (8, [.int (nI 0), .ref ra, .ref ca, .ref ha, .int (nI kp), .ref ba, .int (nI hd), .ref wa]))]) [0] (by decide) rfl
    have hKc := hK.sub (tys' := []) [] rfl
    have hFc := va_free (wc := [(mo, .inr (8, [.int (nI 0), .ref ra, .ref ca, .ref ha, .int (nI kp), .ref ba, .int (nI hd), .ref wa]))]) hD hS hA [0] rfl
    refine va_calli (va_runV (As := [.int (nI 1), .int (nI 1)]) (rest := []) ⟨hx, hb, hml, hown, hts⟩ (c_X6_fails_true l D H.size mo ra ca ha ba wa kp hd 1 (by omega) (by omega)) (cwV 2 hts gX6_play_X6_fails rfl rfl rfl (by decide +kernel) ⟨Nat.le_of_ble_eq_true rfl, Nat.le_of_ble_eq_true rfl⟩) ⟨(z_fb2), va_recv hK hP (ci := 8) (q0 := 0) rfl rfl, fun U hU hW => ⟨rfl, by rw [hU], by rw [hU]; exact hPc, va_K.moved hW.alike hKc, hDc.weaken (fun _ _ _ _ => trivial)⟩⟩ rfl rfl hl.1 rfl (lv_room (Nat.le_of_ble_eq_true rfl)) dX6_play_29 ⟨Nat.le_of_ble_eq_true rfl, Nat.le_of_ble_eq_true rfl⟩) hS (fun q _ h => hFc q h) hFc (fun r29 u29 t H locs ht hvm e29 hB hz1 hk1 hS => ?_)
    obtain ⟨hP1, hK1, hD1⟩ := hB
    rw [ht] at hP1
    obtain ⟨hP, hD⟩ := va_join (wr := []) (w1 := [(mo, .inr (8, [.int (nI 1), .ref ra, .ref ca, .ref ha, .int (nI kp), .ref ba, .int (nI hd), .ref wa]))]) hP hD [0] [] rfl rfl (by decide) (by decide) hk1 hFc hP1 hD1
    have hP : va_P D vwCl [(mo, .inr (8, [.int (nI 1), .ref ra, .ref ca, .ref ha, .int (nI kp), .ref ba, .int (nI hd), .ref wa]))] H := hP
    have hD : va_D A [(mo, .inr (8, [.int (nI 1), .ref ra, .ref ca, .ref ha, .int (nI kp), .ref ba, .int (nI hd), .ref wa]))] := hD
    refine W.widen (k := 0) (n := 0) (Nat.le_of_ble_eq_true rfl) (Nat.le_of_ble_eq_true rfl) ?_
    subst e29
    refine z_bne (tgt := 71) hx hb dX6_play_32 (by decide) (fun c_32 => ?_) (fun c_32 => absurd c_32 (by decide))
    refine lv_iconst (v := nI 0) hx hb dX6_play_71 zki_0 ?_
    have hP9 := hP.sub (ws' := [(mo, .inr (8, [.int (nI 1), .ref ra, .ref ca, .ref ha, .int (nI kp), .ref ba, .int (nI hd), .ref wa]))]) [0] rfl
    have hD9 := hD.sub (ws' := [(mo, .inr (8, [.int (nI 1), .ref ra, .ref ca, .ref ha, .int (nI kp), .ref ba, .int (nI hd), .ref wa]))]) [0] (by decide) rfl
    have hK9 := hK.sub (tys' := []) [] rfl
    subst hAe
    refine W.widen (k := 0) (n := 0) (Nat.le_of_ble_eq_true rfl) (Nat.le_of_ble_eq_true rfl) ?_
    exact W.iret hx hb hr (fun t ht hW => ⟨⟨_, (), rfl, (rfl), by rw [ht]; exact hP9, va_K.moved hW.alike hK9, hD9⟩, hS.F ht⟩) hS.2.2 dX6_play_72
abbrev rm_c_X6_play_bad : Room := { frames := 2, cells := 0, slots := 0, locals := 43 }
abbrev q_c_X6_play_bad (D : va_G) (sz : Nat) (mo : Nat) (ra : Nat) (ca : Nat) (ha : Nat) (ba : Nat) (wa : Nat) (kp : Nat) (hd : Nat) (th : Nat) (j : Nat) (k : Nat) (i : Nat) (i2 : Nat) : Array Value → State → Outcome → State → Prop := va_Qi (fun r (_ : Unit) => r = (nI 0)) (fun (_ : Unit) t => va_P D vwCl [(mo, .inr (8, [.int (nI 2), .ref ra, .ref ca, .ref ha, .int (nI kp), .ref ba, .int (nI hd), .ref wa]))] t.heap ∧ va_K D vwCl [] t ∧ va_D (va_A [(mo, .inr (8, [.int (nI th), .ref ra, .ref ca, .ref ha, .int (nI kp), .ref ba, .int (nI hd), .ref wa]))] sz) [(mo, .inr (8, [.int (nI 2), .ref ra, .ref ca, .ref ha, .int (nI kp), .ref ba, .int (nI hd), .ref wa]))]) (va_A [(mo, .inr (8, [.int (nI th), .ref ra, .ref ca, .ref ha, .int (nI kp), .ref ba, .int (nI hd), .ref wa]))] sz)
set_option maxHeartbeats 4000000 in
set_option maxRecDepth 100000 in
theorem c_X6_play_bad (l : Launch) (D : va_G) (sz : Nat) (mo : Nat) (ra : Nat) (ca : Nat) (ha : Nat) (ba : Nat) (wa : Nat) (kp : Nat) (hd : Nat) (th : Nat) (j : Nat) (k : Nat) (i : Nat) (i2 : Nat) (hj : j < 4) (hk : k < 4) (hi : i < 4) (hi2 : i2 < 4) (hhd : hd < 65536) (hno : isp hd (64 * j + 16 * k + 4 * i + i2) = false) : Met l yX6_play wsX6_play rm_c_X6_play_bad (va_Pc [.ref mo, .int (nI j), .int (nI k), .int (nI i), .int (nI i2)] (fun U => U.heap.size = sz ∧ va_P D vwCl [(mo, .inr (8, [.int (nI th), .ref ra, .ref ca, .ref ha, .int (nI kp), .ref ba, .int (nI hd), .ref wa]))] U.heap ∧ va_K D vwCl [] U ∧ va_D (fun _ => True) [(mo, .inr (8, [.int (nI th), .ref ra, .ref ca, .ref ha, .int (nI kp), .ref ba, .int (nI hd), .ref wa]))])) (q_c_X6_play_bad D sz mo ra ca ha ba wa kp hd th j k i i2) 0 0 (va_A [(mo, .inr (8, [.int (nI th), .ref ra, .ref ca, .ref ha, .int (nI kp), .ref ba, .int (nI hd), .ref wa]))] sz) := by
  refine Met.ofW (cc := cX6_play) (maxL := 5) (ret := (some .int)) (by decide) rfl ?_
  intro p e s m args below meth c s₁ B hml hv
  obtain ⟨hargs, hsz, hP, hK, hD0⟩ := hv
  have hx := B.exec
  have hb := B.bytes
  have hr := B.returns
  have hts := atoms_spec (ws := wsX6_play) B.pre
  have hown : s.vm.findClass RX6 = some m.cls := findClass_of_methodNamed B.named
  have hlocks := B.notSynchronized
  subst hsz
  have hD := hD0.self (sz := s.heap.size)
  generalize hAe : va_A [(mo, .inr (8, [.int (nI th), .ref ra, .ref ca, .ref ha, .int (nI kp), .ref ba, .int (nI hd), .ref wa]))] s.heap.size = A at hD ⊢
  have hA : ∀ q : Nat, s.heap.size ≤ q → A q := fun q h => by rw [← hAe]; exact Or.inr h
  have hS : va_S A s.heap s.heap [] := va_S.rf
  have hl := lv_entry ([.ref mo, .int (nI j), .int (nI k), .int (nI i), .int (nI i2)]) (n := 5) (Nat.le_of_ble_eq_true rfl)
  refine W.eq (g2 := F0 m 0 (lg_sl ([.ref mo, .int (nI j), .int (nI k), .int (nI i), .int (nI i2)]) ++ List.replicate (5 - (lg_sl ([.ref mo, .int (nI j), .int (nI k), .int (nI i), .int (nI i2)])).length) Slot.unset).toArray []) (by rw [hargs]; exact lg_entry_eq _ _ _) ?_
  generalize (lg_sl ([.ref mo, .int (nI j), .int (nI k), .int (nI i), .int (nI i2)]) ++ List.replicate (5 - (lg_sl ([.ref mo, .int (nI j), .int (nI k), .int (nI i), .int (nI i2)])).length) Slot.unset).toArray = ls at hl ⊢
  have hl : lv_has ls 5 [(0, .ref mo), (1, .int (nI j)), (2, .int (nI k)), (3, .int (nI i)), (4, .int (nI i2))] := hl
  refine lv_aload_n hx hb dX6_play_0 rfl (lv_at hl 0 rfl) ?_
  refine lv_iconst (v := nI 0) hx hb dX6_play_1 zki_0 ?_
  refine va_put (D := D) (ci := 8) (v := .int (nI 0)) (ty := .int) (C := RX6) (T := TX6) (N := 8) hx hb hts nX6_play_inX6 tyX6 tyX6_ok nmX6 hown hK hP hD hS 0 rfl rfl 0 (by decide) (hts (.fieldLink RX6 26 "GamefieldModel" "thrown" "I") (by decide +kernel)) (fun _ h9 => h9) rfl (by decide +kernel) rfl rfl (Nat.le_of_ble_eq_true rfl) dX6_play_2 (fun H locs hP hD hS => ?_)
  have hP : va_P D vwCl [(mo, .inr (8, [.int (nI 0), .ref ra, .ref ca, .ref ha, .int (nI kp), .ref ba, .int (nI hd), .ref wa]))] H := hP
  have hD : va_D A [(mo, .inr (8, [.int (nI 0), .ref ra, .ref ca, .ref ha, .int (nI kp), .ref ba, .int (nI hd), .ref wa]))] := hD
  refine lv_aload_n hx hb dX6_play_5 rfl (lv_at hl 0 rfl) ?_
  refine lv_iload_n hx hb dX6_play_6 rfl (lv_at hl 1 rfl) ?_
  refine lv_iload_n hx hb dX6_play_7 rfl (lv_at hl 2 rfl) ?_
  refine z_ci (va_runS (As := [.int (nI j), .int (nI k)]) (rest := [.ref mo]) ⟨hx, hb, hml, hown, hts⟩ (c_X6_isPlace_ok l D j k (by omega) (by omega)) (va_cwS 2 hts gX6_play_X6_isPlace rfl rfl rfl (by decide +kernel) ⟨Nat.le_of_ble_eq_true rfl, Nat.le_of_ble_eq_true rfl⟩) ⟨z_fb0, fun U hU hW => ⟨rfl, trivial⟩⟩ rfl rfl hl.1 rfl (lv_room (Nat.le_of_ble_eq_true rfl)) dX6_play_8 ⟨Nat.le_of_ble_eq_true rfl, Nat.le_of_ble_eq_true rfl⟩) (fun r8 e8 => ?_)
  subst e8
  refine z_beq (tgt := 23) hx hb dX6_play_11 (by decide) (fun c_11 => absurd c_11 (by decide)) (fun c_11 => ?_)
  refine lv_iload_n hx hb dX6_play_14 rfl (lv_at hl 3 rfl) ?_
  refine lv_iload hx hb dX6_play_15 (lv_at hl 4 rfl) ?_
  refine z_ci (va_runS (As := [.int (nI i), .int (nI i2)]) (rest := [.ref mo]) ⟨hx, hb, hml, hown, hts⟩ (c_X6_isPlace_ok l D i i2 (by omega) (by omega)) (va_cwS 2 hts gX6_play_X6_isPlace rfl rfl rfl (by decide +kernel) ⟨Nat.le_of_ble_eq_true rfl, Nat.le_of_ble_eq_true rfl⟩) ⟨z_fb0, fun U hU hW => ⟨rfl, trivial⟩⟩ rfl rfl hl.1 rfl (lv_room (Nat.le_of_ble_eq_true rfl)) dX6_play_17 ⟨Nat.le_of_ble_eq_true rfl, Nat.le_of_ble_eq_true rfl⟩) (fun r17 e17 => ?_)
  subst e17
  refine z_bne (tgt := 27) hx hb dX6_play_20 (by decide) (fun c_20 => ?_) (fun c_20 => absurd c_20 (by decide))
  refine lv_iconst (v := nI 0) hx hb dX6_play_27 zki_0 ?_
  refine lv_iconst (v := nI 1) hx hb dX6_play_28 zki_1 ?_
  have hPc := hP.sub (ws' := [(mo, .inr (8, [.int (nI 0), .ref ra, .ref ca, .ref ha, .int (nI kp), .ref ba, .int (nI hd), .ref wa]))]) [0] rfl
  have hDc := hD.sub (ws' := [(mo, .inr (8, [.int (nI 0), .ref ra, .ref ca, .ref ha, .int (nI kp), .ref ba, .int (nI hd), .ref wa]))]) [0] (by decide) rfl
  have hKc := hK.sub (tys' := []) [] rfl
  have hFc := va_free (wc := [(mo, .inr (8, [.int (nI 0), .ref ra, .ref ca, .ref ha, .int (nI kp), .ref ba, .int (nI hd), .ref wa]))]) hD hS hA [0] rfl
  refine va_calli (va_runV (As := [.int (nI 0), .int (nI 1)]) (rest := []) ⟨hx, hb, hml, hown, hts⟩ (c_X6_fails_false l D H.size mo ra ca ha ba wa kp hd 1 (by omega) (by omega)) (cwV 2 hts gX6_play_X6_fails rfl rfl rfl (by decide +kernel) ⟨Nat.le_of_ble_eq_true rfl, Nat.le_of_ble_eq_true rfl⟩) ⟨(z_fb2), va_recv hK hP (ci := 8) (q0 := 0) rfl rfl, fun U hU hW => ⟨rfl, by rw [hU], by rw [hU]; exact hPc, va_K.moved hW.alike hKc, hDc.weaken (fun _ _ _ _ => trivial)⟩⟩ rfl rfl hl.1 rfl (lv_room (Nat.le_of_ble_eq_true rfl)) dX6_play_29 ⟨Nat.le_of_ble_eq_true rfl, Nat.le_of_ble_eq_true rfl⟩) hS (fun q _ h => hFc q h) hFc (fun r29 u29 t H locs ht hvm e29 hB hz1 hk1 hS => ?_)
  obtain ⟨hP1, hK1, hD1⟩ := hB
  rw [ht] at hP1
  obtain ⟨hP, hD⟩ := va_join (wr := []) (w1 := [(mo, .inr (8, [.int (nI 0), .ref ra, .ref ca, .ref ha, .int (nI kp), .ref ba, .int (nI hd), .ref wa]))]) hP hD [0] [] rfl rfl (by decide) (by decide) hk1 hFc hP1 hD1
  have hP : va_P D vwCl [(mo, .inr (8, [.int (nI 0), .ref ra, .ref ca, .ref ha, .int (nI kp), .ref ba, .int (nI hd), .ref wa]))] H := hP
  have hD : va_D A [(mo, .inr (8, [.int (nI 0), .ref ra, .ref ca, .ref ha, .int (nI kp), .ref ba, .int (nI hd), .ref wa]))] := hD
  refine W.widen (k := 0) (n := 0) (Nat.le_of_ble_eq_true rfl) (Nat.le_of_ble_eq_true rfl) ?_
  subst e29
  refine z_bne (tgt := 71) hx hb dX6_play_32 (by decide) (fun c_32 => absurd c_32 (by decide)) (fun c_32 => ?_)
  refine lv_aload_n hx hb dX6_play_35 rfl (lv_at hl 0 rfl) ?_
  refine lv_aload_n hx hb dX6_play_36 rfl (lv_at hl 0 rfl) ?_
  refine va_get (D := D) (ci := 8) (v := .int (nI hd)) (C := RX6) (T := TX6) (N := 8) hx hb hts nX6_play_inX6 hown hK hP 0 rfl rfl 6 (by decide) (hts (.fieldLink RX6 111 "GamefieldModel" "board" "I") (by decide +kernel)) (fun _ h9 => h9) rfl dX6_play_37 ?_
  refine lv_iload_n hx hb dX6_play_40 rfl (lv_at hl 1 rfl) ?_
  refine lv_iload_n hx hb dX6_play_41 rfl (lv_at hl 2 rfl) ?_
  refine z_ci (va_runS (As := [.int (nI hd), .int (nI j), .int (nI k)]) (rest := [.ref mo]) ⟨hx, hb, hml, hown, hts⟩ (c_X6_isUp l D hd j k (by omega) (by omega) (by omega)) (va_cwS 3 hts gX6_play_X6_isUp rfl rfl rfl (by decide +kernel) ⟨Nat.le_of_ble_eq_true rfl, Nat.le_of_ble_eq_true rfl⟩) ⟨z_fb0, fun U hU hW => ⟨rfl, trivial⟩⟩ rfl rfl hl.1 rfl (lv_room (Nat.le_of_ble_eq_true rfl)) dX6_play_42 ⟨Nat.le_of_ble_eq_true rfl, Nat.le_of_ble_eq_true rfl⟩) (fun r42 e42 => ?_)
  subst e42
  refine z_beq (tgt := 59) hx hb dX6_play_45 (by decide) (fun c_45 => ?_) (fun c_45 => ?_)
  · refine lv_iconst (v := nI 1) hx hb dX6_play_59 zki_1 ?_
    refine lv_goto (tgt := 64) hx hb dX6_play_60 (by decide) ?_
    refine lv_iconst (v := nI 2) hx hb dX6_play_64 zki_2 ?_
    have hPc := hP.sub (ws' := [(mo, .inr (8, [.int (nI 0), .ref ra, .ref ca, .ref ha, .int (nI kp), .ref ba, .int (nI hd), .ref wa]))]) [0] rfl
    have hDc := hD.sub (ws' := [(mo, .inr (8, [.int (nI 0), .ref ra, .ref ca, .ref ha, .int (nI kp), .ref ba, .int (nI hd), .ref wa]))]) [0] (by decide) rfl
    have hKc := hK.sub (tys' := []) [] rfl
    have hFc := va_free (wc := [(mo, .inr (8, [.int (nI 0), .ref ra, .ref ca, .ref ha, .int (nI kp), .ref ba, .int (nI hd), .ref wa]))]) hD hS hA [0] rfl
    refine va_calli (va_runV (As := [.int (nI 1), .int (nI 2)]) (rest := []) ⟨hx, hb, hml, hown, hts⟩ (c_X6_fails_true l D H.size mo ra ca ha ba wa kp hd 2 (by omega) (by omega)) (cwV 2 hts gX6_play_X6_fails rfl rfl rfl (by decide +kernel) ⟨Nat.le_of_ble_eq_true rfl, Nat.le_of_ble_eq_true rfl⟩) ⟨(z_fb2), va_recv hK hP (ci := 8) (q0 := 0) rfl rfl, fun U hU hW => ⟨rfl, by rw [hU], by rw [hU]; exact hPc, va_K.moved hW.alike hKc, hDc.weaken (fun _ _ _ _ => trivial)⟩⟩ rfl rfl hl.1 rfl (lv_room (Nat.le_of_ble_eq_true rfl)) dX6_play_65 ⟨Nat.le_of_ble_eq_true rfl, Nat.le_of_ble_eq_true rfl⟩) hS (fun q _ h => hFc q h) hFc (fun r65 u65 t H locs ht hvm e65 hB hz1 hk1 hS => ?_)
    obtain ⟨hP1, hK1, hD1⟩ := hB
    rw [ht] at hP1
    obtain ⟨hP, hD⟩ := va_join (wr := []) (w1 := [(mo, .inr (8, [.int (nI 2), .ref ra, .ref ca, .ref ha, .int (nI kp), .ref ba, .int (nI hd), .ref wa]))]) hP hD [0] [] rfl rfl (by decide) (by decide) hk1 hFc hP1 hD1
    have hP : va_P D vwCl [(mo, .inr (8, [.int (nI 2), .ref ra, .ref ca, .ref ha, .int (nI kp), .ref ba, .int (nI hd), .ref wa]))] H := hP
    have hD : va_D A [(mo, .inr (8, [.int (nI 2), .ref ra, .ref ca, .ref ha, .int (nI kp), .ref ba, .int (nI hd), .ref wa]))] := hD
    refine W.widen (k := 0) (n := 0) (Nat.le_of_ble_eq_true rfl) (Nat.le_of_ble_eq_true rfl) ?_
    subst e65
    refine z_beq (tgt := 73) hx hb dX6_play_68 (by decide) (fun c_68 => absurd c_68 (by decide)) (fun c_68 => ?_)
    refine lv_iconst (v := nI 0) hx hb dX6_play_71 zki_0 ?_
    have hP9 := hP.sub (ws' := [(mo, .inr (8, [.int (nI 2), .ref ra, .ref ca, .ref ha, .int (nI kp), .ref ba, .int (nI hd), .ref wa]))]) [0] rfl
    have hD9 := hD.sub (ws' := [(mo, .inr (8, [.int (nI 2), .ref ra, .ref ca, .ref ha, .int (nI kp), .ref ba, .int (nI hd), .ref wa]))]) [0] (by decide) rfl
    have hK9 := hK.sub (tys' := []) [] rfl
    subst hAe
    refine W.widen (k := 0) (n := 0) (Nat.le_of_ble_eq_true rfl) (Nat.le_of_ble_eq_true rfl) ?_
    exact W.iret hx hb hr (fun t ht hW => ⟨⟨_, (), rfl, (rfl), by rw [ht]; exact hP9, va_K.moved hW.alike hK9, hD9⟩, hS.F ht⟩) hS.2.2 dX6_play_72
  · refine lv_iload_n hx hb dX6_play_48 rfl (lv_at hl 3 rfl) ?_
    refine lv_iload_n hx hb dX6_play_49 rfl (lv_at hl 1 rfl) ?_
    refine z_cge (tgt := 59) hx hb (by omega) (by omega) dX6_play_50 (by decide) (fun c_50 => ?_) (fun c_50 => ?_)
    · refine lv_iconst (v := nI 1) hx hb dX6_play_59 zki_1 ?_
      refine lv_goto (tgt := 64) hx hb dX6_play_60 (by decide) ?_
      refine lv_iconst (v := nI 2) hx hb dX6_play_64 zki_2 ?_
      have hPc := hP.sub (ws' := [(mo, .inr (8, [.int (nI 0), .ref ra, .ref ca, .ref ha, .int (nI kp), .ref ba, .int (nI hd), .ref wa]))]) [0] rfl
      have hDc := hD.sub (ws' := [(mo, .inr (8, [.int (nI 0), .ref ra, .ref ca, .ref ha, .int (nI kp), .ref ba, .int (nI hd), .ref wa]))]) [0] (by decide) rfl
      have hKc := hK.sub (tys' := []) [] rfl
      have hFc := va_free (wc := [(mo, .inr (8, [.int (nI 0), .ref ra, .ref ca, .ref ha, .int (nI kp), .ref ba, .int (nI hd), .ref wa]))]) hD hS hA [0] rfl
      refine va_calli (va_runV (As := [.int (nI 1), .int (nI 2)]) (rest := []) ⟨hx, hb, hml, hown, hts⟩ (c_X6_fails_true l D H.size mo ra ca ha ba wa kp hd 2 (by omega) (by omega)) (cwV 2 hts gX6_play_X6_fails rfl rfl rfl (by decide +kernel) ⟨Nat.le_of_ble_eq_true rfl, Nat.le_of_ble_eq_true rfl⟩) ⟨(z_fb2), va_recv hK hP (ci := 8) (q0 := 0) rfl rfl, fun U hU hW => ⟨rfl, by rw [hU], by rw [hU]; exact hPc, va_K.moved hW.alike hKc, hDc.weaken (fun _ _ _ _ => trivial)⟩⟩ rfl rfl hl.1 rfl (lv_room (Nat.le_of_ble_eq_true rfl)) dX6_play_65 ⟨Nat.le_of_ble_eq_true rfl, Nat.le_of_ble_eq_true rfl⟩) hS (fun q _ h => hFc q h) hFc (fun r65 u65 t H locs ht hvm e65 hB hz1 hk1 hS => ?_)
      obtain ⟨hP1, hK1, hD1⟩ := hB
      rw [ht] at hP1
      obtain ⟨hP, hD⟩ := va_join (wr := []) (w1 := [(mo, .inr (8, [.int (nI 2), .ref ra, .ref ca, .ref ha, .int (nI kp), .ref ba, .int (nI hd), .ref wa]))]) hP hD [0] [] rfl rfl (by decide) (by decide) hk1 hFc hP1 hD1
      have hP : va_P D vwCl [(mo, .inr (8, [.int (nI 2), .ref ra, .ref ca, .ref ha, .int (nI kp), .ref ba, .int (nI hd), .ref wa]))] H := hP
      have hD : va_D A [(mo, .inr (8, [.int (nI 2), .ref ra, .ref ca, .ref ha, .int (nI kp), .ref ba, .int (nI hd), .ref wa]))] := hD
      refine W.widen (k := 0) (n := 0) (Nat.le_of_ble_eq_true rfl) (Nat.le_of_ble_eq_true rfl) ?_
      subst e65
      refine z_beq (tgt := 73) hx hb dX6_play_68 (by decide) (fun c_68 => absurd c_68 (by decide)) (fun c_68 => ?_)
      refine lv_iconst (v := nI 0) hx hb dX6_play_71 zki_0 ?_
      have hP9 := hP.sub (ws' := [(mo, .inr (8, [.int (nI 2), .ref ra, .ref ca, .ref ha, .int (nI kp), .ref ba, .int (nI hd), .ref wa]))]) [0] rfl
      have hD9 := hD.sub (ws' := [(mo, .inr (8, [.int (nI 2), .ref ra, .ref ca, .ref ha, .int (nI kp), .ref ba, .int (nI hd), .ref wa]))]) [0] (by decide) rfl
      have hK9 := hK.sub (tys' := []) [] rfl
      subst hAe
      refine W.widen (k := 0) (n := 0) (Nat.le_of_ble_eq_true rfl) (Nat.le_of_ble_eq_true rfl) ?_
      exact W.iret hx hb hr (fun t ht hW => ⟨⟨_, (), rfl, (rfl), by rw [ht]; exact hP9, va_K.moved hW.alike hK9, hD9⟩, hS.F ht⟩) hS.2.2 dX6_play_72
    · refine lv_iload hx hb dX6_play_53 (lv_at hl 4 rfl) ?_
      refine lv_iload_n hx hb dX6_play_55 rfl (lv_at hl 2 rfl) ?_
      have q1 : (64 * j + 16 * k + 4 * i + i2) / 4 = 16 * j + 4 * k + i := by omega
      have q2 : (64 * j + 16 * k + 4 * i + i2) / 16 = 4 * j + k := by omega
      have q3 : (64 * j + 16 * k + 4 * i + i2) / 64 = j := by omega
      have q4 : (64 * j + 16 * k + 4 * i + i2) % 4 = i2 := by omega
      refine z_clt (tgt := 63) hx hb (by omega) (by omega) dX6_play_56 (by decide) (fun c_56 => absurd (hno.symm.trans (isp_t (by rw [q3, q2, show 4 * j + (4 * j + k) % 4 = 4 * j + k by omega]; exact c_45) (by rw [q1, q3]; omega) (by rw [q4, q2]; omega))) (by decide)) (fun c_56 => ?_)
      refine lv_iconst (v := nI 1) hx hb dX6_play_59 zki_1 ?_
      refine lv_goto (tgt := 64) hx hb dX6_play_60 (by decide) ?_
      refine lv_iconst (v := nI 2) hx hb dX6_play_64 zki_2 ?_
      have hPc := hP.sub (ws' := [(mo, .inr (8, [.int (nI 0), .ref ra, .ref ca, .ref ha, .int (nI kp), .ref ba, .int (nI hd), .ref wa]))]) [0] rfl
      have hDc := hD.sub (ws' := [(mo, .inr (8, [.int (nI 0), .ref ra, .ref ca, .ref ha, .int (nI kp), .ref ba, .int (nI hd), .ref wa]))]) [0] (by decide) rfl
      have hKc := hK.sub (tys' := []) [] rfl
      have hFc := va_free (wc := [(mo, .inr (8, [.int (nI 0), .ref ra, .ref ca, .ref ha, .int (nI kp), .ref ba, .int (nI hd), .ref wa]))]) hD hS hA [0] rfl
      refine va_calli (va_runV (As := [.int (nI 1), .int (nI 2)]) (rest := []) ⟨hx, hb, hml, hown, hts⟩ (c_X6_fails_true l D H.size mo ra ca ha ba wa kp hd 2 (by omega) (by omega)) (cwV 2 hts gX6_play_X6_fails rfl rfl rfl (by decide +kernel) ⟨Nat.le_of_ble_eq_true rfl, Nat.le_of_ble_eq_true rfl⟩) ⟨(z_fb2), va_recv hK hP (ci := 8) (q0 := 0) rfl rfl, fun U hU hW => ⟨rfl, by rw [hU], by rw [hU]; exact hPc, va_K.moved hW.alike hKc, hDc.weaken (fun _ _ _ _ => trivial)⟩⟩ rfl rfl hl.1 rfl (lv_room (Nat.le_of_ble_eq_true rfl)) dX6_play_65 ⟨Nat.le_of_ble_eq_true rfl, Nat.le_of_ble_eq_true rfl⟩) hS (fun q _ h => hFc q h) hFc (fun r65 u65 t H locs ht hvm e65 hB hz1 hk1 hS => ?_)
      obtain ⟨hP1, hK1, hD1⟩ := hB
      rw [ht] at hP1
      obtain ⟨hP, hD⟩ := va_join (wr := []) (w1 := [(mo, .inr (8, [.int (nI 2), .ref ra, .ref ca, .ref ha, .int (nI kp), .ref ba, .int (nI hd), .ref wa]))]) hP hD [0] [] rfl rfl (by decide) (by decide) hk1 hFc hP1 hD1
      have hP : va_P D vwCl [(mo, .inr (8, [.int (nI 2), .ref ra, .ref ca, .ref ha, .int (nI kp), .ref ba, .int (nI hd), .ref wa]))] H := hP
      have hD : va_D A [(mo, .inr (8, [.int (nI 2), .ref ra, .ref ca, .ref ha, .int (nI kp), .ref ba, .int (nI hd), .ref wa]))] := hD
      refine W.widen (k := 0) (n := 0) (Nat.le_of_ble_eq_true rfl) (Nat.le_of_ble_eq_true rfl) ?_
      subst e65
      refine z_beq (tgt := 73) hx hb dX6_play_68 (by decide) (fun c_68 => absurd c_68 (by decide)) (fun c_68 => ?_)
      refine lv_iconst (v := nI 0) hx hb dX6_play_71 zki_0 ?_
      have hP9 := hP.sub (ws' := [(mo, .inr (8, [.int (nI 2), .ref ra, .ref ca, .ref ha, .int (nI kp), .ref ba, .int (nI hd), .ref wa]))]) [0] rfl
      have hD9 := hD.sub (ws' := [(mo, .inr (8, [.int (nI 2), .ref ra, .ref ca, .ref ha, .int (nI kp), .ref ba, .int (nI hd), .ref wa]))]) [0] (by decide) rfl
      have hK9 := hK.sub (tys' := []) [] rfl
      subst hAe
      refine W.widen (k := 0) (n := 0) (Nat.le_of_ble_eq_true rfl) (Nat.le_of_ble_eq_true rfl) ?_
      exact W.iret hx hb hr (fun t ht hW => ⟨⟨_, (), rfl, (rfl), by rw [ht]; exact hP9, va_K.moved hW.alike hK9, hD9⟩, hS.F ht⟩) hS.2.2 dX6_play_72
