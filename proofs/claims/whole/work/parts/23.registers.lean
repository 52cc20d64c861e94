theorem nX4_requireRegister_inX4 : ∀ w ∈ u_ws RX4 TX4 5, w ∈ wsX4_requireRegister := by decide +kernel
theorem nX4_numberOf_inX4 : ∀ w ∈ u_ws RX4 TX4 5, w ∈ wsX4_numberOf := by decide +kernel
theorem nX4_store_inX4 : ∀ w ∈ u_ws RX4 TX4 5, w ∈ wsX4_store := by decide +kernel
theorem nX4_change_inX4 : ∀ w ∈ u_ws RX4 TX4 5, w ∈ wsX4_change := by decide +kernel
theorem nX4_takeBack_inX4 : ∀ w ∈ u_ws RX4 TX4 5, w ∈ wsX4_takeBack := by decide +kernel
theorem nX4_countKept_inX4 : ∀ w ∈ u_ws RX4 TX4 5, w ∈ wsX4_countKept := by decide +kernel
theorem nX4_total_inX4 : ∀ w ∈ u_ws RX4 TX4 5, w ∈ wsX4_total := by decide +kernel
theorem nX4_numbersMixedInto_inX4 : ∀ w ∈ u_ws RX4 TX4 5, w ∈ wsX4_numbersMixedInto := by decide +kernel
abbrev rm_c_X4_requireRegister : Room := { frames := 0, cells := 0, slots := 0, locals := 0 }
abbrev q_c_X4_requireRegister (D : va_G) (rg : Nat) (rV : Nat) (rC : Nat) (rB : Nat) (cV : ClassId) (cC : ClassId) (cB : ClassId) (rgf : Nat → Nat) (chf : Nat → Nat) (vbf : Nat → Nat) (chg : Nat) (kp : Nat) (j : Nat) : Array Value → State → Outcome → State → Prop := va_Sv (fun _ => True)
set_option maxHeartbeats 4000000 in
set_option maxRecDepth 100000 in
theorem c_X4_requireRegister (l : Launch) (D : va_G) (rg : Nat) (rV : Nat) (rC : Nat) (rB : Nat) (cV : ClassId) (cC : ClassId) (cB : ClassId) (rgf : Nat → Nat) (chf : Nat → Nat) (vbf : Nat → Nat) (chg : Nat) (kp : Nat) (j : Nat) (hj : j < 8) : Met l yX4_requireRegister wsX4_requireRegister rm_c_X4_requireRegister (va_Pc [.ref rg, .int (nI j)] (fun U => va_P D vwCl [(rg, .inr (6, [.ref rV, .ref rC, .ref rB, .int (nI chg), .int (nI kp)])), (rV, .inl (cV, 8, .inl (aN rgf))), (rC, .inl (cC, 8, .inl (aN chf))), (rB, .inl (cB, 8, .inl (aN vbf)))] U.heap ∧ va_K D vwCl [(cV, .int), (cC, .int), (cB, .int)] U)) (q_c_X4_requireRegister D rg rV rC rB cV cC cB rgf chf vbf chg kp j) 0 0 (fun _ => False) := by
  refine Met.ofW (cc := cX4_requireRegister) (maxL := 2) (ret := none) (by decide) rfl ?_
  intro p e s m args below meth c s₁ B hml hv
  obtain ⟨hargs, hP, hK⟩ := hv
  have hx := B.exec
  have hb := B.bytes
  have hr := B.returns
  have hts := atoms_spec (ws := wsX4_requireRegister) B.pre
  have hown : s.vm.findClass RX4 = some m.cls := findClass_of_methodNamed B.named
  have hlocks := B.notSynchronized
  have hl := lv_entry ([.ref rg, .int (nI j)]) (n := 2) (Nat.le_of_ble_eq_true rfl)
  refine W.eq (g2 := F0 m 0 (lg_sl ([.ref rg, .int (nI j)]) ++ List.replicate (2 - (lg_sl ([.ref rg, .int (nI j)])).length) Slot.unset).toArray []) (by rw [hargs]; exact lg_entry_eq _ _ _) ?_
  generalize (lg_sl ([.ref rg, .int (nI j)]) ++ List.replicate (2 - (lg_sl ([.ref rg, .int (nI j)])).length) Slot.unset).toArray = ls at hl ⊢
  have hl : lv_has ls 2 [(0, .ref rg), (1, .int (nI j))] := hl
  refine lv_iload_n hx hb dX4_requireRegister_0 rfl (lv_at hl 1 rfl) ?_
  refine z_flt (tgt := 13) hx hb (by omega) dX4_requireRegister_1 (by decide) ?_
  refine lv_iload_n hx hb dX4_requireRegister_4 rfl (lv_at hl 1 rfl) ?_
  refine lv_aload_n hx hb dX4_requireRegister_5 rfl (lv_at hl 0 rfl) ?_
  refine va_get (D := D) (ci := 6) (v := .ref rV) (C := RX4) (T := TX4) (N := 5) hx hb hts nX4_requireRegister_inX4 hown hK hP 0 rfl rfl 0 (by decide) (hts (.fieldLink RX4 11 "Gamefield$Registers" "values" "[I") (by decide +kernel)) (fun _ h9 => h9) rfl dX4_requireRegister_6 ?_
  refine va_alen (v := nI 8) hx hb hK hP 1 0 rfl rfl rfl dX4_requireRegister_9 ?_
  refine z_clt (tgt := 23) hx hb (by omega) (by omega) dX4_requireRegister_10 (by decide) (fun c_10 => ?_) (fun c_10 => absurd c_10 (by omega))
  exact W.vret hx hb hr (fun t ht _ => ⟨rfl, (trivial), ht⟩) (fun _ h => nomatch h) dX4_requireRegister_23
abbrev rm_c_X4_requireRegister_x : Room := { frames := 6, cells := 1, slots := 6, locals := 90 }
abbrev q_c_X4_requireRegister_x (D : va_G) (sz : Nat) (rg : Nat) (rV : Nat) (rC : Nat) (rB : Nat) (cV : ClassId) (cC : ClassId) (cB : ClassId) (rgf : Nat → Nat) (chf : Nat → Nat) (vbf : Nat → Nat) (chg : Nat) (kp : Nat) (x : Int32) : Array Value → State → Outcome → State → Prop := va_Qv (fun (j : Nat) => j < 8 ∧ x = nI j) (fun (j : Nat) t => va_P D vwCl [(rg, .inr (6, [.ref rV, .ref rC, .ref rB, .int (nI chg), .int (nI kp)])), (rV, .inl (cV, 8, .inl (aN rgf))), (rC, .inl (cC, 8, .inl (aN chf))), (rB, .inl (cB, 8, .inl (aN vbf)))] t.heap ∧ va_K D vwCl [(cV, .int), (cC, .int), (cB, .int)] t ∧ va_D (va_A [(rg, .inr (6, [.ref rV, .ref rC, .ref rB, .int (nI chg), .int (nI kp)])), (rV, .inl (cV, 8, .inl (aN rgf))), (rC, .inl (cC, 8, .inl (aN chf))), (rB, .inl (cB, 8, .inl (aN vbf)))] sz) [(rg, .inr (6, [.ref rV, .ref rC, .ref rB, .int (nI chg), .int (nI kp)])), (rV, .inl (cV, 8, .inl (aN rgf))), (rC, .inl (cC, 8, .inl (aN chf))), (rB, .inl (cB, 8, .inl (aN vbf)))]) (va_A [(rg, .inr (6, [.ref rV, .ref rC, .ref rB, .int (nI chg), .int (nI kp)])), (rV, .inl (cV, 8, .inl (aN rgf))), (rC, .inl (cC, 8, .inl (aN chf))), (rB, .inl (cB, 8, .inl (aN vbf)))] sz)
abbrev x_c_X4_requireRegister_x (D : va_G) (sz : Nat) (rg : Nat) (rV : Nat) (rC : Nat) (rB : Nat) (cV : ClassId) (cC : ClassId) (cB : ClassId) (rgf : Nat → Nat) (chf : Nat → Nat) (vbf : Nat → Nat) (chg : Nat) (kp : Nat) (x : Int32) : String → State → State → Prop := vx_X (fun _ : Unit => True) (fun E (_ : Unit) t => (E = "java/lang/IndexOutOfBoundsException" ∧ inN 8 x = false) ∧ va_P D vwCl [(rg, .inr (6, [.ref rV, .ref rC, .ref rB, .int (nI chg), .int (nI kp)])), (rV, .inl (cV, 8, .inl (aN rgf))), (rC, .inl (cC, 8, .inl (aN chf))), (rB, .inl (cB, 8, .inl (aN vbf)))] t.heap ∧ va_K D vwCl [(cV, .int), (cC, .int), (cB, .int)] t ∧ va_D (va_A [(rg, .inr (6, [.ref rV, .ref rC, .ref rB, .int (nI chg), .int (nI kp)])), (rV, .inl (cV, 8, .inl (aN rgf))), (rC, .inl (cC, 8, .inl (aN chf))), (rB, .inl (cB, 8, .inl (aN vbf)))] sz) [(rg, .inr (6, [.ref rV, .ref rC, .ref rB, .int (nI chg), .int (nI kp)])), (rV, .inl (cV, 8, .inl (aN rgf))), (rC, .inl (cC, 8, .inl (aN chf))), (rB, .inl (cB, 8, .inl (aN vbf)))]) (va_A [(rg, .inr (6, [.ref rV, .ref rC, .ref rB, .int (nI chg), .int (nI kp)])), (rV, .inl (cV, 8, .inl (aN rgf))), (rC, .inl (cC, 8, .inl (aN chf))), (rB, .inl (cB, 8, .inl (aN vbf)))] sz)
set_option maxHeartbeats 4000000 in
set_option maxRecDepth 100000 in
theorem c_X4_requireRegister_x (l : Launch) (hst : l.stackTraces = false) (D : va_G) (sz : Nat) (rg : Nat) (rV : Nat) (rC : Nat) (rB : Nat) (cV : ClassId) (cC : ClassId) (cB : ClassId) (rgf : Nat → Nat) (chf : Nat → Nat) (vbf : Nat → Nat) (chg : Nat) (kp : Nat) (x : Int32) : vx_Met l yX4_requireRegister wsX4_requireRegister rm_c_X4_requireRegister_x (va_Pc [.ref rg, .int x] (fun U => U.heap.size = sz ∧ va_P D vwCl [(rg, .inr (6, [.ref rV, .ref rC, .ref rB, .int (nI chg), .int (nI kp)])), (rV, .inl (cV, 8, .inl (aN rgf))), (rC, .inl (cC, 8, .inl (aN chf))), (rB, .inl (cB, 8, .inl (aN vbf)))] U.heap ∧ va_K D vwCl [(cV, .int), (cC, .int), (cB, .int)] U ∧ va_D (fun _ => True) [(rg, .inr (6, [.ref rV, .ref rC, .ref rB, .int (nI chg), .int (nI kp)])), (rV, .inl (cV, 8, .inl (aN rgf))), (rC, .inl (cC, 8, .inl (aN chf))), (rB, .inl (cB, 8, .inl (aN vbf)))] ∧ zTh (va_A [(rg, .inr (6, [.ref rV, .ref rC, .ref rB, .int (nI chg), .int (nI kp)])), (rV, .inl (cV, 8, .inl (aN rgf))), (rC, .inl (cC, 8, .inl (aN chf))), (rB, .inl (cB, 8, .inl (aN vbf)))] sz) U U.heap)) (q_c_X4_requireRegister_x D sz rg rV rC rB cV cC cB rgf chf vbf chg kp x) (x_c_X4_requireRegister_x D sz rg rV rC rB cV cC cB rgf chf vbf chg kp x) 1 6 (va_A [(rg, .inr (6, [.ref rV, .ref rC, .ref rB, .int (nI chg), .int (nI kp)])), (rV, .inl (cV, 8, .inl (aN rgf))), (rC, .inl (cC, 8, .inl (aN chf))), (rB, .inl (cB, 8, .inl (aN vbf)))] sz) := by
  refine vx_ofW (cc := cX4_requireRegister) (maxL := 2) (ret := none) (by decide) rfl ?_
  intro p e s m args below meth c s₁ B hml hxt hv
  obtain ⟨hargs, hsz, hP, hK, hD0, hTh⟩ := hv
  have hx := B.exec
  have hb := B.bytes
  have hr := B.returns
  have hts := atoms_spec (ws := wsX4_requireRegister) B.pre
  have hown : s.vm.findClass RX4 = some m.cls := findClass_of_methodNamed B.named
  have hlocks := B.notSynchronized
  subst hsz
  have hD := hD0.self (sz := s.heap.size)
  generalize hAe : va_A [(rg, .inr (6, [.ref rV, .ref rC, .ref rB, .int (nI chg), .int (nI kp)])), (rV, .inl (cV, 8, .inl (aN rgf))), (rC, .inl (cC, 8, .inl (aN chf))), (rB, .inl (cB, 8, .inl (aN vbf)))] s.heap.size = A at hD hTh ⊢
  have hA : ∀ q : Nat, s.heap.size ≤ q → A q := fun q h => by rw [← hAe]; exact Or.inr h
  have hS : va_S A s.heap s.heap [] := va_S.rf
  have hl := lv_entry ([.ref rg, .int x]) (n := 2) (Nat.le_of_ble_eq_true rfl)
  refine W.eq (g2 := F0 m 0 (lg_sl ([.ref rg, .int x]) ++ List.replicate (2 - (lg_sl ([.ref rg, .int x])).length) Slot.unset).toArray []) (by rw [hargs]; exact lg_entry_eq _ _ _) ?_
  generalize (lg_sl ([.ref rg, .int x]) ++ List.replicate (2 - (lg_sl ([.ref rg, .int x])).length) Slot.unset).toArray = ls at hl ⊢
  have hl : lv_has ls 2 [(0, .ref rg), (1, .int x)] := hl
  refine lv_iload_n hx hb dX4_requireRegister_0 rfl (lv_at hl 1 rfl) ?_
  refine lv_if_lt (tgt := 13) hx hb dX4_requireRegister_1 (by decide) (fun c_1 => ?_) (fun c_1 => ?_)
  · have hP9 := hP.sub (ws' := [(rg, .inr (6, [.ref rV, .ref rC, .ref rB, .int (nI chg), .int (nI kp)])), (rV, .inl (cV, 8, .inl (aN rgf))), (rC, .inl (cC, 8, .inl (aN chf))), (rB, .inl (cB, 8, .inl (aN vbf)))]) [0, 1, 2, 3] rfl
    have hD9 := hD.sub (ws' := [(rg, .inr (6, [.ref rV, .ref rC, .ref rB, .int (nI chg), .int (nI kp)])), (rV, .inl (cV, 8, .inl (aN rgf))), (rC, .inl (cC, 8, .inl (aN chf))), (rB, .inl (cB, 8, .inl (aN vbf)))]) [0, 1, 2, 3] (by decide) rfl
    have hK9 := hK.sub (tys' := [(cV, .int), (cC, .int), (cB, .int)]) [0, 1, 2] rfl
    obtain ⟨sa9, hsa9⟩ := hTh.2.2.1
    subst hAe
    exact vx_throwS (sa := sa9) hx hb hst (own := RX4) (cls := "java/lang/IndexOutOfBoundsException") (names := ["java/lang/RuntimeException", "java/lang/Exception"]) hown (by decide) (by decide) (hts (.classLink RX4 28 "java/lang/IndexOutOfBoundsException") (by decide +kernel)) (hts (.initialized "java/lang/IndexOutOfBoundsException") (by decide +kernel)) hsa9 (wth_hat_X4_requireRegister hts hTh.2.2.2.2.2.2.2.2.2.2.2) wth_good_RX4_32_28 hTh.1 hTh.2.1 hS (hl.1.trans hml.symm) dX4_requireRegister_13 dX4_requireRegister_16 dX4_requireRegister_17 dX4_requireRegister_19 dX4_requireRegister_22 (fun x h => (hxt x h).elim) (Nat.le_of_ble_eq_true rfl) (Nat.le_of_ble_eq_true rfl) (Nat.le_of_ble_eq_true rfl) (Nat.le_of_ble_eq_true rfl) hlocks (fun t hvm hz hk => ⟨(), trivial, ⟨⟨rfl, inN_f (by first | exact Or.inl c_1 | exact Or.inr (i_ge c_10))⟩, va_P.kept hP9 (fun k q hq => hk q.1 ((hP9 k q hq).lt)), va_K.moved hvm hK9, hD9⟩, ⟨Nat.le_trans hS.1 hz, fun q h1 h2 => (hk q (Nat.lt_of_lt_of_le h1 hS.1)).trans (hS.2.1 q h1 h2)⟩⟩) hS.2.2 (Nat.le_of_ble_eq_true rfl) (Nat.le_of_ble_eq_true rfl)
  · refine lv_iload_n hx hb dX4_requireRegister_4 rfl (lv_at hl 1 rfl) ?_
    refine lv_aload_n hx hb dX4_requireRegister_5 rfl (lv_at hl 0 rfl) ?_
    refine va_get (D := D) (ci := 6) (v := .ref rV) (C := RX4) (T := TX4) (N := 5) hx hb hts nX4_requireRegister_inX4 hown hK hP 0 rfl rfl 0 (by decide) (hts (.fieldLink RX4 11 "Gamefield$Registers" "values" "[I") (by decide +kernel)) (fun _ h9 => h9) rfl dX4_requireRegister_6 ?_
    refine va_alen (v := nI 8) hx hb hK hP 1 0 rfl rfl rfl dX4_requireRegister_9 ?_
    refine lv_icmp_lt (tgt := 23) hx hb dX4_requireRegister_10 (by decide) (fun c_10 => ?_) (fun c_10 => ?_)
    · obtain ⟨j0, hj0, rfl⟩ := inN_lt c_1 (i_ngt c_10) (by decide)
      have hP9 := hP.sub (ws' := [(rg, .inr (6, [.ref rV, .ref rC, .ref rB, .int (nI chg), .int (nI kp)])), (rV, .inl (cV, 8, .inl (aN rgf))), (rC, .inl (cC, 8, .inl (aN chf))), (rB, .inl (cB, 8, .inl (aN vbf)))]) [0, 1, 2, 3] rfl
      have hD9 := hD.sub (ws' := [(rg, .inr (6, [.ref rV, .ref rC, .ref rB, .int (nI chg), .int (nI kp)])), (rV, .inl (cV, 8, .inl (aN rgf))), (rC, .inl (cC, 8, .inl (aN chf))), (rB, .inl (cB, 8, .inl (aN vbf)))]) [0, 1, 2, 3] (by decide) rfl
      have hK9 := hK.sub (tys' := [(cV, .int), (cC, .int), (cB, .int)]) [0, 1, 2] rfl
      subst hAe
      refine W.widen (k := 1) (n := 6) (Nat.le_of_ble_eq_true rfl) (Nat.le_of_ble_eq_true rfl) ?_
      exact vx_ret <| W.vret hx hb hr (fun t ht hW => ⟨⟨j0, rfl, (⟨hj0, rfl⟩), by rw [ht]; exact hP9, va_K.moved hW.alike hK9, hD9⟩, hS.F ht⟩) hS.2.2 dX4_requireRegister_23
    · have hP9 := hP.sub (ws' := [(rg, .inr (6, [.ref rV, .ref rC, .ref rB, .int (nI chg), .int (nI kp)])), (rV, .inl (cV, 8, .inl (aN rgf))), (rC, .inl (cC, 8, .inl (aN chf))), (rB, .inl (cB, 8, .inl (aN vbf)))]) [0, 1, 2, 3] rfl
      have hD9 := hD.sub (ws' := [(rg, .inr (6, [.ref rV, .ref rC, .ref rB, .int (nI chg), .int (nI kp)])), (rV, .inl (cV, 8, .inl (aN rgf))), (rC, .inl (cC, 8, .inl (aN chf))), (rB, .inl (cB, 8, .inl (aN vbf)))]) [0, 1, 2, 3] (by decide) rfl
      have hK9 := hK.sub (tys' := [(cV, .int), (cC, .int), (cB, .int)]) [0, 1, 2] rfl
      obtain ⟨sa9, hsa9⟩ := hTh.2.2.1
      subst hAe
      exact vx_throwS (sa := sa9) hx hb hst (own := RX4) (cls := "java/lang/IndexOutOfBoundsException") (names := ["java/lang/RuntimeException", "java/lang/Exception"]) hown (by decide) (by decide) (hts (.classLink RX4 28 "java/lang/IndexOutOfBoundsException") (by decide +kernel)) (hts (.initialized "java/lang/IndexOutOfBoundsException") (by decide +kernel)) hsa9 (wth_hat_X4_requireRegister hts hTh.2.2.2.2.2.2.2.2.2.2.2) wth_good_RX4_32_28 hTh.1 hTh.2.1 hS (hl.1.trans hml.symm) dX4_requireRegister_13 dX4_requireRegister_16 dX4_requireRegister_17 dX4_requireRegister_19 dX4_requireRegister_22 (fun x h => (hxt x h).elim) (Nat.le_of_ble_eq_true rfl) (Nat.le_of_ble_eq_true rfl) (Nat.le_of_ble_eq_true rfl) (Nat.le_of_ble_eq_true rfl) hlocks (fun t hvm hz hk => ⟨(), trivial, ⟨⟨rfl, inN_f (by first | exact Or.inl c_1 | exact Or.inr (i_ge c_10))⟩, va_P.kept hP9 (fun k q hq => hk q.1 ((hP9 k q hq).lt)), va_K.moved hvm hK9, hD9⟩, ⟨Nat.le_trans hS.1 hz, fun q h1 h2 => (hk q (Nat.lt_of_lt_of_le h1 hS.1)).trans (hS.2.1 q h1 h2)⟩⟩) hS.2.2 (Nat.le_of_ble_eq_true rfl) (Nat.le_of_ble_eq_true rfl)
abbrev rm_c_X4_numberOf : Room := { frames := 1, cells := 0, slots := 0, locals := 21 }
abbrev q_c_X4_numberOf (D : va_G) (rg : Nat) (rV : Nat) (rC : Nat) (rB : Nat) (cV : ClassId) (cC : ClassId) (cB : ClassId) (rgf : Nat → Nat) (chf : Nat → Nat) (vbf : Nat → Nat) (chg : Nat) (kp : Nat) (j : Nat) : Array Value → State → Outcome → State → Prop := vp_Si (fun r => r = (nI (rgf j)))
set_option maxHeartbeats 4000000 in
set_option maxRecDepth 100000 in
theorem c_X4_numberOf (l : Launch) (D : va_G) (rg : Nat) (rV : Nat) (rC : Nat) (rB : Nat) (cV : ClassId) (cC : ClassId) (cB : ClassId) (rgf : Nat → Nat) (chf : Nat → Nat) (vbf : Nat → Nat) (chg : Nat) (kp : Nat) (j : Nat) (hj : j < 8) : Met l yX4_numberOf wsX4_numberOf rm_c_X4_numberOf (va_Pc [.ref rg, .int (nI j)] (fun U => va_P D vwCl [(rg, .inr (6, [.ref rV, .ref rC, .ref rB, .int (nI chg), .int (nI kp)])), (rV, .inl (cV, 8, .inl (aN rgf))), (rC, .inl (cC, 8, .inl (aN chf))), (rB, .inl (cB, 8, .inl (aN vbf)))] U.heap ∧ va_K D vwCl [(cV, .int), (cC, .int), (cB, .int)] U)) (q_c_X4_numberOf D rg rV rC rB cV cC cB rgf chf vbf chg kp j) 0 0 (fun _ => False) := by
  refine Met.ofW (cc := cX4_numberOf) (maxL := 2) (ret := (some .int)) (by decide) rfl ?_
  intro p e s m args below meth c s₁ B hml hv
  obtain ⟨hargs, hP, hK⟩ := hv
  have hx := B.exec
  have hb := B.bytes
  have hr := B.returns
  have hts := atoms_spec (ws := wsX4_numberOf) B.pre
  have hown : s.vm.findClass RX4 = some m.cls := findClass_of_methodNamed B.named
  have hlocks := B.notSynchronized
  have hl := lv_entry ([.ref rg, .int (nI j)]) (n := 2) (Nat.le_of_ble_eq_true rfl)
  refine W.eq (g2 := F0 m 0 (lg_sl ([.ref rg, .int (nI j)]) ++ List.replicate (2 - (lg_sl ([.ref rg, .int (nI j)])).length) Slot.unset).toArray []) (by rw [hargs]; exact lg_entry_eq _ _ _) ?_
  generalize (lg_sl ([.ref rg, .int (nI j)]) ++ List.replicate (2 - (lg_sl ([.ref rg, .int (nI j)])).length) Slot.unset).toArray = ls at hl ⊢
  have hl : lv_has ls 2 [(0, .ref rg), (1, .int (nI j))] := hl
  refine lv_aload_n hx hb dX4_numberOf_0 rfl (lv_at hl 0 rfl) ?_
  refine lv_iload_n hx hb dX4_numberOf_1 rfl (lv_at hl 1 rfl) ?_
  refine z_cv (va_runV (As := [.int (nI j)]) (rest := []) ⟨hx, hb, hml, hown, hts⟩ (c_X4_requireRegister l D rg rV rC rB cV cC cB rgf chf vbf chg kp j (by omega)) (cwV 1 hts gX4_numberOf_X4_requireRegister rfl rfl rfl (by decide +kernel) ⟨Nat.le_of_ble_eq_true rfl, Nat.le_of_ble_eq_true rfl⟩) ⟨(z_fb1), va_recv hK hP (ci := 6) (q0 := 0) rfl rfl, fun U hU hW => ⟨rfl, by rw [hU]; exact hP, va_K.moved hW.alike hK⟩⟩ rfl rfl hl.1 rfl (lv_room (Nat.le_of_ble_eq_true rfl)) dX4_numberOf_2 ⟨Nat.le_of_ble_eq_true rfl, Nat.le_of_ble_eq_true rfl⟩) (fun e2 => ?_)
  refine lv_aload_n hx hb dX4_numberOf_5 rfl (lv_at hl 0 rfl) ?_
  refine va_get (D := D) (ci := 6) (v := .ref rV) (C := RX4) (T := TX4) (N := 5) hx hb hts nX4_numberOf_inX4 hown hK hP 0 rfl rfl 0 (by decide) (hts (.fieldLink RX4 11 "Gamefield$Registers" "values" "[I") (by decide +kernel)) (fun _ h9 => h9) rfl dX4_numberOf_6 ?_
  refine lv_iload_n hx hb dX4_numberOf_9 rfl (lv_at hl 1 rfl) ?_
  refine z_iald hx hb hK hP 1 0 rfl rfl (by omega) (by decide) dX4_numberOf_10 ?_
  exact W.iret hx hb hr (fun t ht _ => ⟨_, rfl, (rfl), ht⟩) (fun _ h => nomatch h) dX4_numberOf_11
abbrev rm_c_X4_numberOf_x : Room := { frames := 7, cells := 1, slots := 6, locals := 111 }
abbrev q_c_X4_numberOf_x (D : va_G) (sz : Nat) (rg : Nat) (rV : Nat) (rC : Nat) (rB : Nat) (cV : ClassId) (cC : ClassId) (cB : ClassId) (rgf : Nat → Nat) (chf : Nat → Nat) (vbf : Nat → Nat) (chg : Nat) (kp : Nat) (x : Int32) : Array Value → State → Outcome → State → Prop := va_Qi (fun r (j : Nat) => j < 8 ∧ x = nI j ∧ r = nI (rgf j)) (fun (j : Nat) t => va_P D vwCl [(rg, .inr (6, [.ref rV, .ref rC, .ref rB, .int (nI chg), .int (nI kp)])), (rV, .inl (cV, 8, .inl (aN rgf))), (rC, .inl (cC, 8, .inl (aN chf))), (rB, .inl (cB, 8, .inl (aN vbf)))] t.heap ∧ va_K D vwCl [(cV, .int), (cC, .int), (cB, .int)] t ∧ va_D (va_A [(rg, .inr (6, [.ref rV, .ref rC, .ref rB, .int (nI chg), .int (nI kp)])), (rV, .inl (cV, 8, .inl (aN rgf))), (rC, .inl (cC, 8, .inl (aN chf))), (rB, .inl (cB, 8, .inl (aN vbf)))] sz) [(rg, .inr (6, [.ref rV, .ref rC, .ref rB, .int (nI chg), .int (nI kp)])), (rV, .inl (cV, 8, .inl (aN rgf))), (rC, .inl (cC, 8, .inl (aN chf))), (rB, .inl (cB, 8, .inl (aN vbf)))]) (va_A [(rg, .inr (6, [.ref rV, .ref rC, .ref rB, .int (nI chg), .int (nI kp)])), (rV, .inl (cV, 8, .inl (aN rgf))), (rC, .inl (cC, 8, .inl (aN chf))), (rB, .inl (cB, 8, .inl (aN vbf)))] sz)
abbrev x_c_X4_numberOf_x (D : va_G) (sz : Nat) (rg : Nat) (rV : Nat) (rC : Nat) (rB : Nat) (cV : ClassId) (cC : ClassId) (cB : ClassId) (rgf : Nat → Nat) (chf : Nat → Nat) (vbf : Nat → Nat) (chg : Nat) (kp : Nat) (x : Int32) : String → State → State → Prop := vx_X (fun _ : Unit => True) (fun E (_ : Unit) t => (E = "java/lang/IndexOutOfBoundsException" ∧ inN 8 x = false) ∧ va_P D vwCl [(rg, .inr (6, [.ref rV, .ref rC, .ref rB, .int (nI chg), .int (nI kp)])), (rV, .inl (cV, 8, .inl (aN rgf))), (rC, .inl (cC, 8, .inl (aN chf))), (rB, .inl (cB, 8, .inl (aN vbf)))] t.heap ∧ va_K D vwCl [(cV, .int), (cC, .int), (cB, .int)] t ∧ va_D (va_A [(rg, .inr (6, [.ref rV, .ref rC, .ref rB, .int (nI chg), .int (nI kp)])), (rV, .inl (cV, 8, .inl (aN rgf))), (rC, .inl (cC, 8, .inl (aN chf))), (rB, .inl (cB, 8, .inl (aN vbf)))] sz) [(rg, .inr (6, [.ref rV, .ref rC, .ref rB, .int (nI chg), .int (nI kp)])), (rV, .inl (cV, 8, .inl (aN rgf))), (rC, .inl (cC, 8, .inl (aN chf))), (rB, .inl (cB, 8, .inl (aN vbf)))]) (va_A [(rg, .inr (6, [.ref rV, .ref rC, .ref rB, .int (nI chg), .int (nI kp)])), (rV, .inl (cV, 8, .inl (aN rgf))), (rC, .inl (cC, 8, .inl (aN chf))), (rB, .inl (cB, 8, .inl (aN vbf)))] sz)
set_option maxHeartbeats 4000000 in
set_option maxRecDepth 100000 in
theorem c_X4_numberOf_x (l : Launch) (hst : l.stackTraces = false) (D : va_G) (sz : Nat) (rg : Nat) (rV : Nat) (rC : Nat) (rB : Nat) (cV : ClassId) (cC : ClassId) (cB : ClassId) (rgf : Nat → Nat) (chf : Nat → Nat) (vbf : Nat → Nat) (chg : Nat) (kp : Nat) (x : Int32) : vx_Met l yX4_numberOf wsX4_numberOf rm_c_X4_numberOf_x (va_Pc [.ref rg, .int x] (fun U => U.heap.size = sz ∧ va_P D vwCl [(rg, .inr (6, [.ref rV, .ref rC, .ref rB, .int (nI chg), .int (nI kp)])), (rV, .inl (cV, 8, .inl (aN rgf))), (rC, .inl (cC, 8, .inl (aN chf))), (rB, .inl (cB, 8, .inl (aN vbf)))] U.heap ∧ va_K D vwCl [(cV, .int), (cC, .int), (cB, .int)] U ∧ va_D (fun _ => True) [(rg, .inr (6, [.ref rV, .ref rC, .ref rB, .int (nI chg), .int (nI kp)])), (rV, .inl (cV, 8, .inl (aN rgf))), (rC, .inl (cC, 8, .inl (aN chf))), (rB, .inl (cB, 8, .inl (aN vbf)))] ∧ zTh (va_A [(rg, .inr (6, [.ref rV, .ref rC, .ref rB, .int (nI chg), .int (nI kp)])), (rV, .inl (cV, 8, .inl (aN rgf))), (rC, .inl (cC, 8, .inl (aN chf))), (rB, .inl (cB, 8, .inl (aN vbf)))] sz) U U.heap)) (q_c_X4_numberOf_x D sz rg rV rC rB cV cC cB rgf chf vbf chg kp x) (x_c_X4_numberOf_x D sz rg rV rC rB cV cC cB rgf chf vbf chg kp x) 1 6 (va_A [(rg, .inr (6, [.ref rV, .ref rC, .ref rB, .int (nI chg), .int (nI kp)])), (rV, .inl (cV, 8, .inl (aN rgf))), (rC, .inl (cC, 8, .inl (aN chf))), (rB, .inl (cB, 8, .inl (aN vbf)))] sz) := by
  refine vx_ofW (cc := cX4_numberOf) (maxL := 2) (ret := (some .int)) (by decide) rfl ?_
  intro p e s m args below meth c s₁ B hml hxt hv
  obtain ⟨hargs, hsz, hP, hK, hD0, hTh⟩ := hv
  have hx := B.exec
  have hb := B.bytes
  have hr := B.returns
  have hts := atoms_spec (ws := wsX4_numberOf) B.pre
  have hown : s.vm.findClass RX4 = some m.cls := findClass_of_methodNamed B.named
  have hlocks := B.notSynchronized
  subst hsz
  have hD := hD0.self (sz := s.heap.size)
  generalize hAe : va_A [(rg, .inr (6, [.ref rV, .ref rC, .ref rB, .int (nI chg), .int (nI kp)])), (rV, .inl (cV, 8, .inl (aN rgf))), (rC, .inl (cC, 8, .inl (aN chf))), (rB, .inl (cB, 8, .inl (aN vbf)))] s.heap.size = A at hD hTh ⊢
  have hA : ∀ q : Nat, s.heap.size ≤ q → A q := fun q h => by rw [← hAe]; exact Or.inr h
  have hS : va_S A s.heap s.heap [] := va_S.rf
  have hl := lv_entry ([.ref rg, .int x]) (n := 2) (Nat.le_of_ble_eq_true rfl)
  refine W.eq (g2 := F0 m 0 (lg_sl ([.ref rg, .int x]) ++ List.replicate (2 - (lg_sl ([.ref rg, .int x])).length) Slot.unset).toArray []) (by rw [hargs]; exact lg_entry_eq _ _ _) ?_
  generalize (lg_sl ([.ref rg, .int x]) ++ List.replicate (2 - (lg_sl ([.ref rg, .int x])).length) Slot.unset).toArray = ls at hl ⊢
  have hl : lv_has ls 2 [(0, .ref rg), (1, .int x)] := hl
  refine lv_aload_n hx hb dX4_numberOf_0 rfl (lv_at hl 0 rfl) ?_
  refine lv_iload_n hx hb dX4_numberOf_1 rfl (lv_at hl 1 rfl) ?_
  have hPc := hP.sub (ws' := [(rg, .inr (6, [.ref rV, .ref rC, .ref rB, .int (nI chg), .int (nI kp)])), (rV, .inl (cV, 8, .inl (aN rgf))), (rC, .inl (cC, 8, .inl (aN chf))), (rB, .inl (cB, 8, .inl (aN vbf)))]) [0, 1, 2, 3] rfl
  have hDc := hD.sub (ws' := [(rg, .inr (6, [.ref rV, .ref rC, .ref rB, .int (nI chg), .int (nI kp)])), (rV, .inl (cV, 8, .inl (aN rgf))), (rC, .inl (cC, 8, .inl (aN chf))), (rB, .inl (cB, 8, .inl (aN vbf)))]) [0, 1, 2, 3] (by decide) rfl
  have hKc := hK.sub (tys' := [(cV, .int), (cC, .int), (cB, .int)]) [0, 1, 2] rfl
  have hFc := va_free (wc := [(rg, .inr (6, [.ref rV, .ref rC, .ref rB, .int (nI chg), .int (nI kp)])), (rV, .inl (cV, 8, .inl (aN rgf))), (rC, .inl (cC, 8, .inl (aN chf))), (rB, .inl (cB, 8, .inl (aN vbf)))]) hD hS hA [0, 1, 2, 3] rfl
  refine vx_callv (vx_runV (As := [.int x]) (rest := []) ⟨hx, hb, hml, hown, hts⟩ (c_X4_requireRegister_x l hst D s.heap.size rg rV rC rB cV cC cB rgf chf vbf chg kp x ) (cwV 1 hts gX4_numberOf_X4_requireRegister rfl rfl rfl (by decide +kernel) ⟨Nat.le_of_ble_eq_true rfl, Nat.le_of_ble_eq_true rfl⟩) ⟨z_fbX, va_recv hK hP (ci := 6) (q0 := 0) rfl rfl, fun U hU hW => ⟨rfl, by rw [hU], by rw [hU]; exact hPc, va_K.moved hW.alike hKc, hDc.weaken (fun _ _ _ _ => trivial), hTh.next hS hFc hW hU⟩⟩ rfl rfl hl.1 rfl (lv_room (Nat.le_of_ble_eq_true rfl)) dX4_numberOf_2 ⟨Nat.le_of_ble_eq_true rfl, Nat.le_of_ble_eq_true rfl⟩) hS (fun q _ h => hFc q h) hFc (fun q _ h => hFc q h) (fun E9 ce9 q9 u9 t H locs ht hvm hpx hBX hz1 hk1 hS hce hcv hcf => ?_) (fun u2 t H locs ht hvm e2 hB hz1 hk1 hS => ?_)
  · obtain ⟨hE9, hP1, hK1, hD1⟩ := hBX
    rw [ht] at hP1
    obtain ⟨hP, hD⟩ := va_join (wr := []) (w1 := [(rg, .inr (6, [.ref rV, .ref rC, .ref rB, .int (nI chg), .int (nI kp)])), (rV, .inl (cV, 8, .inl (aN rgf))), (rC, .inl (cC, 8, .inl (aN chf))), (rB, .inl (cB, 8, .inl (aN vbf)))]) hP hD [0, 1, 2, 3] [] rfl rfl (by decide) (by decide) hk1 hFc hP1 hD1
    have hP : va_P D vwCl [(rg, .inr (6, [.ref rV, .ref rC, .ref rB, .int (nI chg), .int (nI kp)])), (rV, .inl (cV, 8, .inl (aN rgf))), (rC, .inl (cC, 8, .inl (aN chf))), (rB, .inl (cB, 8, .inl (aN vbf)))] H := hP
    have hD : va_D A [(rg, .inr (6, [.ref rV, .ref rC, .ref rB, .int (nI chg), .int (nI kp)])), (rV, .inl (cV, 8, .inl (aN rgf))), (rC, .inl (cC, 8, .inl (aN chf))), (rB, .inl (cB, 8, .inl (aN vbf)))] := hD
    have hP9 := hP.sub (ws' := [(rg, .inr (6, [.ref rV, .ref rC, .ref rB, .int (nI chg), .int (nI kp)])), (rV, .inl (cV, 8, .inl (aN rgf))), (rC, .inl (cC, 8, .inl (aN chf))), (rB, .inl (cB, 8, .inl (aN vbf)))]) [0, 1, 2, 3] rfl
    have hD9 := hD.sub (ws' := [(rg, .inr (6, [.ref rV, .ref rC, .ref rB, .int (nI chg), .int (nI kp)])), (rV, .inl (cV, 8, .inl (aN rgf))), (rC, .inl (cC, 8, .inl (aN chf))), (rB, .inl (cB, 8, .inl (aN vbf)))]) [0, 1, 2, 3] (by decide) rfl
    have hK9 := hK.sub (tys' := [(cV, .int), (cC, .int), (cB, .int)]) [0, 1, 2] rfl
    subst hAe
    exact vx_out (fun x h => (hxt x h).elim) hlocks hce hcv hcf (fun t2 ht2 hvm2 => ⟨(), trivial, ⟨hE9, by rw [ht2]; exact hP9, va_K.moved hvm2 hK9, hD9⟩, hS.F ht2⟩) hS.2.2 (Nat.le_of_ble_eq_true rfl) (Nat.le_of_ble_eq_true rfl)
  · obtain ⟨j_2, rfl⟩ : ∃ z, z = u2 := ⟨_, rfl⟩
    try dsimp only at e2 hB
    obtain ⟨hj2, rfl⟩ := e2
    obtain ⟨hP1, hK1, hD1⟩ := hB
    rw [ht] at hP1
    obtain ⟨hP, hD⟩ := va_join (wr := []) (w1 := [(rg, .inr (6, [.ref rV, .ref rC, .ref rB, .int (nI chg), .int (nI kp)])), (rV, .inl (cV, 8, .inl (aN rgf))), (rC, .inl (cC, 8, .inl (aN chf))), (rB, .inl (cB, 8, .inl (aN vbf)))]) hP hD [0, 1, 2, 3] [] rfl rfl (by decide) (by decide) hk1 hFc hP1 hD1
    have hP : va_P D vwCl [(rg, .inr (6, [.ref rV, .ref rC, .ref rB, .int (nI chg), .int (nI kp)])), (rV, .inl (cV, 8, .inl (aN rgf))), (rC, .inl (cC, 8, .inl (aN chf))), (rB, .inl (cB, 8, .inl (aN vbf)))] H := hP
    have hD : va_D A [(rg, .inr (6, [.ref rV, .ref rC, .ref rB, .int (nI chg), .int (nI kp)])), (rV, .inl (cV, 8, .inl (aN rgf))), (rC, .inl (cC, 8, .inl (aN chf))), (rB, .inl (cB, 8, .inl (aN vbf)))] := hD
    refine W.widen (k := 1) (n := 6) (Nat.le_of_ble_eq_true rfl) (Nat.le_of_ble_eq_true rfl) ?_
    refine lv_aload_n hx hb dX4_numberOf_5 rfl (lv_at hl 0 rfl) ?_
    refine va_get (D := D) (ci := 6) (v := .ref rV) (C := RX4) (T := TX4) (N := 5) hx hb hts nX4_numberOf_inX4 hown hK hP 0 rfl rfl 0 (by decide) (hts (.fieldLink RX4 11 "Gamefield$Registers" "values" "[I") (by decide +kernel)) (fun _ h9 => h9) rfl dX4_numberOf_6 ?_
    refine lv_iload_n hx hb dX4_numberOf_9 rfl (lv_at hl 1 rfl) ?_
    refine z_iald hx hb hK hP 1 0 rfl rfl (by omega) (by decide) dX4_numberOf_10 ?_
    have hP9 := hP.sub (ws' := [(rg, .inr (6, [.ref rV, .ref rC, .ref rB, .int (nI chg), .int (nI kp)])), (rV, .inl (cV, 8, .inl (aN rgf))), (rC, .inl (cC, 8, .inl (aN chf))), (rB, .inl (cB, 8, .inl (aN vbf)))]) [0, 1, 2, 3] rfl
    have hD9 := hD.sub (ws' := [(rg, .inr (6, [.ref rV, .ref rC, .ref rB, .int (nI chg), .int (nI kp)])), (rV, .inl (cV, 8, .inl (aN rgf))), (rC, .inl (cC, 8, .inl (aN chf))), (rB, .inl (cB, 8, .inl (aN vbf)))]) [0, 1, 2, 3] (by decide) rfl
    have hK9 := hK.sub (tys' := [(cV, .int), (cC, .int), (cB, .int)]) [0, 1, 2] rfl
    subst hAe
    refine W.widen (k := 1) (n := 6) (Nat.le_of_ble_eq_true rfl) (Nat.le_of_ble_eq_true rfl) ?_
    exact vx_ret <| W.iret hx hb hr (fun t ht hW => ⟨⟨_, j_2, rfl, (⟨hj2, rfl, rfl⟩), by rw [ht]; exact hP9, va_K.moved hW.alike hK9, hD9⟩, hS.F ht⟩) hS.2.2 dX4_numberOf_11
abbrev rm_c_X4_store : Room := { frames := 1, cells := 0, slots := 0, locals := 21 }
abbrev q_c_X4_store (D : va_G) (sz : Nat) (rg : Nat) (rV : Nat) (rC : Nat) (rB : Nat) (cV : ClassId) (cC : ClassId) (cB : ClassId) (rgf : Nat → Nat) (chf : Nat → Nat) (vbf : Nat → Nat) (chg : Nat) (kp : Nat) (j : Nat) (v : Nat) : Array Value → State → Outcome → State → Prop := va_Qv (fun (_ : Unit) => True) (fun (_ : Unit) t => va_P D vwCl [(rg, .inr (6, [.ref rV, .ref rC, .ref rB, .int (nI chg), .int (nI kp)])), (rV, .inl (cV, 8, .inl (aN (va_up rgf j v)))), (rC, .inl (cC, 8, .inl (aN chf))), (rB, .inl (cB, 8, .inl (aN vbf)))] t.heap ∧ va_K D vwCl [(cV, .int), (cC, .int), (cB, .int)] t ∧ va_D (va_A [(rg, .inr (6, [.ref rV, .ref rC, .ref rB, .int (nI chg), .int (nI kp)])), (rV, .inl (cV, 8, .inl (aN rgf))), (rC, .inl (cC, 8, .inl (aN chf))), (rB, .inl (cB, 8, .inl (aN vbf)))] sz) [(rg, .inr (6, [.ref rV, .ref rC, .ref rB, .int (nI chg), .int (nI kp)])), (rV, .inl (cV, 8, .inl (aN (va_up rgf j v)))), (rC, .inl (cC, 8, .inl (aN chf))), (rB, .inl (cB, 8, .inl (aN vbf)))]) (va_A [(rg, .inr (6, [.ref rV, .ref rC, .ref rB, .int (nI chg), .int (nI kp)])), (rV, .inl (cV, 8, .inl (aN rgf))), (rC, .inl (cC, 8, .inl (aN chf))), (rB, .inl (cB, 8, .inl (aN vbf)))] sz)
set_option maxHeartbeats 4000000 in
set_option maxRecDepth 100000 in
theorem c_X4_store (l : Launch) (D : va_G) (sz : Nat) (rg : Nat) (rV : Nat) (rC : Nat) (rB : Nat) (cV : ClassId) (cC : ClassId) (cB : ClassId) (rgf : Nat → Nat) (chf : Nat → Nat) (vbf : Nat → Nat) (chg : Nat) (kp : Nat) (j : Nat) (v : Nat) (hj : j < 8) : Met l yX4_store wsX4_store rm_c_X4_store (va_Pc [.ref rg, .int (nI j), .int (nI v)] (fun U => U.heap.size = sz ∧ va_P D vwCl [(rg, .inr (6, [.ref rV, .ref rC, .ref rB, .int (nI chg), .int (nI kp)])), (rV, .inl (cV, 8, .inl (aN rgf))), (rC, .inl (cC, 8, .inl (aN chf))), (rB, .inl (cB, 8, .inl (aN vbf)))] U.heap ∧ va_K D vwCl [(cV, .int), (cC, .int), (cB, .int)] U ∧ va_D (fun _ => True) [(rg, .inr (6, [.ref rV, .ref rC, .ref rB, .int (nI chg), .int (nI kp)])), (rV, .inl (cV, 8, .inl (aN rgf))), (rC, .inl (cC, 8, .inl (aN chf))), (rB, .inl (cB, 8, .inl (aN vbf)))])) (q_c_X4_store D sz rg rV rC rB cV cC cB rgf chf vbf chg kp j v) 0 0 (va_A [(rg, .inr (6, [.ref rV, .ref rC, .ref rB, .int (nI chg), .int (nI kp)])), (rV, .inl (cV, 8, .inl (aN rgf))), (rC, .inl (cC, 8, .inl (aN chf))), (rB, .inl (cB, 8, .inl (aN vbf)))] sz) := by
  refine Met.ofW (cc := cX4_store) (maxL := 3) (ret := none) (by decide) rfl ?_
  intro p e s m args below meth c s₁ B hml hv
  obtain ⟨hargs, hsz, hP, hK, hD0⟩ := hv
  have hx := B.exec
  have hb := B.bytes
  have hr := B.returns
  have hts := atoms_spec (ws := wsX4_store) B.pre
  have hown : s.vm.findClass RX4 = some m.cls := findClass_of_methodNamed B.named
  have hlocks := B.notSynchronized
  subst hsz
  have hD := hD0.self (sz := s.heap.size)
  generalize hAe : va_A [(rg, .inr (6, [.ref rV, .ref rC, .ref rB, .int (nI chg), .int (nI kp)])), (rV, .inl (cV, 8, .inl (aN rgf))), (rC, .inl (cC, 8, .inl (aN chf))), (rB, .inl (cB, 8, .inl (aN vbf)))] s.heap.size = A at hD ⊢
  have hA : ∀ q : Nat, s.heap.size ≤ q → A q := fun q h => by rw [← hAe]; exact Or.inr h
  have hS : va_S A s.heap s.heap [] := va_S.rf
  have hl := lv_entry ([.ref rg, .int (nI j), .int (nI v)]) (n := 3) (Nat.le_of_ble_eq_true rfl)
  refine W.eq (g2 := F0 m 0 (lg_sl ([.ref rg, .int (nI j), .int (nI v)]) ++ List.replicate (3 - (lg_sl ([.ref rg, .int (nI j), .int (nI v)])).length) Slot.unset).toArray []) (by rw [hargs]; exact lg_entry_eq _ _ _) ?_
  generalize (lg_sl ([.ref rg, .int (nI j), .int (nI v)]) ++ List.replicate (3 - (lg_sl ([.ref rg, .int (nI j), .int (nI v)])).length) Slot.unset).toArray = ls at hl ⊢
  have hl : lv_has ls 3 [(0, .ref rg), (1, .int (nI j)), (2, .int (nI v))] := hl
  refine lv_aload_n hx hb dX4_store_0 rfl (lv_at hl 0 rfl) ?_
  refine lv_iload_n hx hb dX4_store_1 rfl (lv_at hl 1 rfl) ?_
  refine z_cv (va_runV (As := [.int (nI j)]) (rest := []) ⟨hx, hb, hml, hown, hts⟩ (c_X4_requireRegister l D rg rV rC rB cV cC cB rgf chf vbf chg kp j (by omega)) (cwV 1 hts gX4_store_X4_requireRegister rfl rfl rfl (by decide +kernel) ⟨Nat.le_of_ble_eq_true rfl, Nat.le_of_ble_eq_true rfl⟩) ⟨(z_fb1), va_recv hK hP (ci := 6) (q0 := 0) rfl rfl, fun U hU hW => ⟨rfl, by rw [hU]; exact hP, va_K.moved hW.alike hK⟩⟩ rfl rfl hl.1 rfl (lv_room (Nat.le_of_ble_eq_true rfl)) dX4_store_2 ⟨Nat.le_of_ble_eq_true rfl, Nat.le_of_ble_eq_true rfl⟩) (fun e2 => ?_)
  refine lv_aload_n hx hb dX4_store_5 rfl (lv_at hl 0 rfl) ?_
  refine va_get (D := D) (ci := 6) (v := .ref rV) (C := RX4) (T := TX4) (N := 5) hx hb hts nX4_store_inX4 hown hK hP 0 rfl rfl 0 (by decide) (hts (.fieldLink RX4 11 "Gamefield$Registers" "values" "[I") (by decide +kernel)) (fun _ h9 => h9) rfl dX4_store_6 ?_
  refine lv_iload_n hx hb dX4_store_9 rfl (lv_at hl 1 rfl) ?_
  refine lv_iload_n hx hb dX4_store_10 rfl (lv_at hl 2 rfl) ?_
  refine z_iast hx hb hK hP hD hS 1 0 rfl rfl (by omega) (by decide) dX4_store_11 (fun H locs hP hD hS => ?_)
  have hP : va_P D vwCl [(rg, .inr (6, [.ref rV, .ref rC, .ref rB, .int (nI chg), .int (nI kp)])), (rV, .inl (cV, 8, .inl (aN (va_up rgf j v)))), (rC, .inl (cC, 8, .inl (aN chf))), (rB, .inl (cB, 8, .inl (aN vbf)))] H := hP
  have hD : va_D A [(rg, .inr (6, [.ref rV, .ref rC, .ref rB, .int (nI chg), .int (nI kp)])), (rV, .inl (cV, 8, .inl (aN (va_up rgf j v)))), (rC, .inl (cC, 8, .inl (aN chf))), (rB, .inl (cB, 8, .inl (aN vbf)))] := hD
  have hP9 := hP.sub (ws' := [(rg, .inr (6, [.ref rV, .ref rC, .ref rB, .int (nI chg), .int (nI kp)])), (rV, .inl (cV, 8, .inl (aN (va_up rgf j v)))), (rC, .inl (cC, 8, .inl (aN chf))), (rB, .inl (cB, 8, .inl (aN vbf)))]) [0, 1, 2, 3] rfl
  have hD9 := hD.sub (ws' := [(rg, .inr (6, [.ref rV, .ref rC, .ref rB, .int (nI chg), .int (nI kp)])), (rV, .inl (cV, 8, .inl (aN (va_up rgf j v)))), (rC, .inl (cC, 8, .inl (aN chf))), (rB, .inl (cB, 8, .inl (aN vbf)))]) [0, 1, 2, 3] (by decide) rfl
  have hK9 := hK.sub (tys' := [(cV, .int), (cC, .int), (cB, .int)]) [0, 1, 2] rfl
  subst hAe
  refine W.widen (k := 0) (n := 0) (Nat.le_of_ble_eq_true rfl) (Nat.le_of_ble_eq_true rfl) ?_
  exact W.vret hx hb hr (fun t ht hW => ⟨⟨(), rfl, (trivial), by rw [ht]; exact hP9, va_K.moved hW.alike hK9, hD9⟩, hS.F ht⟩) hS.2.2 dX4_store_12
abbrev rm_c_X4_change : Room := { frames := 2, cells := 0, slots := 0, locals := 43 }
abbrev q_c_X4_change (D : va_G) (sz : Nat) (rg : Nat) (rV : Nat) (rC : Nat) (rB : Nat) (cV : ClassId) (cC : ClassId) (cB : ClassId) (rgf : Nat → Nat) (chf : Nat → Nat) (vbf : Nat → Nat) (chg : Nat) (kp : Nat) (j : Nat) (v : Nat) : Array Value → State → Outcome → State → Prop := va_Qi (fun r (_ : Unit) => r = (nI v)) (fun (_ : Unit) t => va_P D vwCl [(rg, .inr (6, [.ref rV, .ref rC, .ref rB, .int (nI (chg + 1)), .int (nI (min (kp + 1) 8))])), (rV, .inl (cV, 8, .inl (aN (va_up rgf j v)))), (rC, .inl (cC, 8, .inl (aN (va_up chf (chg % 8) j)))), (rB, .inl (cB, 8, .inl (aN (va_up vbf (chg % 8) (rgf j)))))] t.heap ∧ va_K D vwCl [(cV, .int), (cC, .int), (cB, .int)] t ∧ va_D (va_A [(rg, .inr (6, [.ref rV, .ref rC, .ref rB, .int (nI chg), .int (nI kp)])), (rV, .inl (cV, 8, .inl (aN rgf))), (rC, .inl (cC, 8, .inl (aN chf))), (rB, .inl (cB, 8, .inl (aN vbf)))] sz) [(rg, .inr (6, [.ref rV, .ref rC, .ref rB, .int (nI (chg + 1)), .int (nI (min (kp + 1) 8))])), (rV, .inl (cV, 8, .inl (aN (va_up rgf j v)))), (rC, .inl (cC, 8, .inl (aN (va_up chf (chg % 8) j)))), (rB, .inl (cB, 8, .inl (aN (va_up vbf (chg % 8) (rgf j)))))]) (va_A [(rg, .inr (6, [.ref rV, .ref rC, .ref rB, .int (nI chg), .int (nI kp)])), (rV, .inl (cV, 8, .inl (aN rgf))), (rC, .inl (cC, 8, .inl (aN chf))), (rB, .inl (cB, 8, .inl (aN vbf)))] sz)
set_option maxHeartbeats 4000000 in
set_option maxRecDepth 100000 in
theorem c_X4_change (l : Launch) (D : va_G) (sz : Nat) (rg : Nat) (rV : Nat) (rC : Nat) (rB : Nat) (cV : ClassId) (cC : ClassId) (cB : ClassId) (rgf : Nat → Nat) (chf : Nat → Nat) (vbf : Nat → Nat) (chg : Nat) (kp : Nat) (j : Nat) (v : Nat) (hj : j < 8) (hcg : chg < 2147483647) (hkp : kp ≤ 8) : Met l yX4_change wsX4_change rm_c_X4_change (va_Pc [.ref rg, .int (nI j), .int (nI v)] (fun U => U.heap.size = sz ∧ va_P D vwCl [(rg, .inr (6, [.ref rV, .ref rC, .ref rB, .int (nI chg), .int (nI kp)])), (rV, .inl (cV, 8, .inl (aN rgf))), (rC, .inl (cC, 8, .inl (aN chf))), (rB, .inl (cB, 8, .inl (aN vbf)))] U.heap ∧ va_K D vwCl [(cV, .int), (cC, .int), (cB, .int)] U ∧ va_D (fun _ => True) [(rg, .inr (6, [.ref rV, .ref rC, .ref rB, .int (nI chg), .int (nI kp)])), (rV, .inl (cV, 8, .inl (aN rgf))), (rC, .inl (cC, 8, .inl (aN chf))), (rB, .inl (cB, 8, .inl (aN vbf)))])) (q_c_X4_change D sz rg rV rC rB cV cC cB rgf chf vbf chg kp j v) 0 0 (va_A [(rg, .inr (6, [.ref rV, .ref rC, .ref rB, .int (nI chg), .int (nI kp)])), (rV, .inl (cV, 8, .inl (aN rgf))), (rC, .inl (cC, 8, .inl (aN chf))), (rB, .inl (cB, 8, .inl (aN vbf)))] sz) := by
  refine Met.ofW (cc := cX4_change) (maxL := 5) (ret := (some .int)) (by decide) rfl ?_
  intro p e s m args below meth c s₁ B hml hv
  obtain ⟨hargs, hsz, hP, hK, hD0⟩ := hv
  have hx := B.exec
  have hb := B.bytes
  have hr := B.returns
  have hts := atoms_spec (ws := wsX4_change) B.pre
  have hown : s.vm.findClass RX4 = some m.cls := findClass_of_methodNamed B.named
  have hlocks := B.notSynchronized
  subst hsz
  have hD := hD0.self (sz := s.heap.size)
  generalize hAe : va_A [(rg, .inr (6, [.ref rV, .ref rC, .ref rB, .int (nI chg), .int (nI kp)])), (rV, .inl (cV, 8, .inl (aN rgf))), (rC, .inl (cC, 8, .inl (aN chf))), (rB, .inl (cB, 8, .inl (aN vbf)))] s.heap.size = A at hD ⊢
  have hA : ∀ q : Nat, s.heap.size ≤ q → A q := fun q h => by rw [← hAe]; exact Or.inr h
  have hS : va_S A s.heap s.heap [] := va_S.rf
  have hl := lv_entry ([.ref rg, .int (nI j), .int (nI v)]) (n := 5) (Nat.le_of_ble_eq_true rfl)
  refine W.eq (g2 := F0 m 0 (lg_sl ([.ref rg, .int (nI j), .int (nI v)]) ++ List.replicate (5 - (lg_sl ([.ref rg, .int (nI j), .int (nI v)])).length) Slot.unset).toArray []) (by rw [hargs]; exact lg_entry_eq _ _ _) ?_
  generalize (lg_sl ([.ref rg, .int (nI j), .int (nI v)]) ++ List.replicate (5 - (lg_sl ([.ref rg, .int (nI j), .int (nI v)])).length) Slot.unset).toArray = ls at hl ⊢
  have hl : lv_has ls 5 [(0, .ref rg), (1, .int (nI j)), (2, .int (nI v))] := hl
  refine lv_aload_n hx hb dX4_change_0 rfl (lv_at hl 0 rfl) ?_
  refine lv_iload_n hx hb dX4_change_1 rfl (lv_at hl 1 rfl) ?_
  refine z_ci (va_runV (As := [.int (nI j)]) (rest := []) ⟨hx, hb, hml, hown, hts⟩ (c_X4_numberOf l D rg rV rC rB cV cC cB rgf chf vbf chg kp j (by omega)) (cwV 1 hts gX4_change_X4_numberOf rfl rfl rfl (by decide +kernel) ⟨Nat.le_of_ble_eq_true rfl, Nat.le_of_ble_eq_true rfl⟩) ⟨(z_fb1), va_recv hK hP (ci := 6) (q0 := 0) rfl rfl, fun U hU hW => ⟨rfl, by rw [hU]; exact hP, va_K.moved hW.alike hK⟩⟩ rfl rfl hl.1 rfl (lv_room (Nat.le_of_ble_eq_true rfl)) dX4_change_2 ⟨Nat.le_of_ble_eq_true rfl, Nat.le_of_ble_eq_true rfl⟩) (fun r2 e2 => ?_)
  subst e2
  refine lv_istore_n (lv' := [(3, .int (nI (rgf j))), (0, .ref rg), (1, .int (nI j)), (2, .int (nI v))]) hx hb dX4_change_5 rfl hl (by decide) rfl (fun ls hl => ?_)
  refine lv_aload_n hx hb dX4_change_6 rfl (lv_at hl 1 rfl) ?_
  refine va_get (D := D) (ci := 6) (v := .int (nI chg)) (C := RX4) (T := TX4) (N := 5) hx hb hts nX4_change_inX4 hown hK hP 0 rfl rfl 3 (by decide) (hts (.fieldLink RX4 21 "Gamefield$Registers" "changes" "I") (by decide +kernel)) (fun _ h9 => h9) rfl dX4_change_7 ?_
  refine lv_bipush (v := nI 8) hx hb dX4_change_10 zkb_8 ?_
  refine z_fmod hx hb (by rw [hml]; exact hl.1.symm) hown (hts (.methodLink RX4 43 yJ9_floorMod_7cf53) (by decide +kernel)) (hts (.static yJ9_floorMod_7cf53) (by decide +kernel)) (hts (.initialized RJ9) (by decide +kernel)) (hts (.code yJ9_floorMod_7cf53 cJ9_floorMod_7cf53 3 (some .int)) (by decide +kernel)) (Nat.le_of_ble_eq_true rfl) (Nat.le_of_ble_eq_true rfl) (Nat.le_of_ble_eq_true rfl) (Nat.le_of_ble_eq_true rfl) (by omega) dX4_change_12 ?_
  refine lv_istore (lv' := [(4, .int (nI (chg % 8))), (3, .int (nI (rgf j))), (0, .ref rg), (1, .int (nI j)), (2, .int (nI v))]) hx hb dX4_change_15 hl (by decide) rfl (fun ls hl => ?_)
  refine lv_aload_n hx hb dX4_change_17 rfl (lv_at hl 2 rfl) ?_
  refine va_get (D := D) (ci := 6) (v := .ref rC) (C := RX4) (T := TX4) (N := 5) hx hb hts nX4_change_inX4 hown hK hP 0 rfl rfl 1 (by decide) (hts (.fieldLink RX4 15 "Gamefield$Registers" "changed" "[I") (by decide +kernel)) (fun _ h9 => h9) rfl dX4_change_18 ?_
  refine lv_iload hx hb dX4_change_21 (lv_at hl 0 rfl) ?_
  refine lv_iload_n hx hb dX4_change_23 rfl (lv_at hl 3 rfl) ?_
  refine z_iast hx hb hK hP hD hS 2 1 rfl rfl (by omega) (by decide) dX4_change_24 (fun H locs hP hD hS => ?_)
  have hP : va_P D vwCl [(rg, .inr (6, [.ref rV, .ref rC, .ref rB, .int (nI chg), .int (nI kp)])), (rV, .inl (cV, 8, .inl (aN rgf))), (rC, .inl (cC, 8, .inl (aN (va_up chf (chg % 8) j)))), (rB, .inl (cB, 8, .inl (aN vbf)))] H := hP
  have hD : va_D A [(rg, .inr (6, [.ref rV, .ref rC, .ref rB, .int (nI chg), .int (nI kp)])), (rV, .inl (cV, 8, .inl (aN rgf))), (rC, .inl (cC, 8, .inl (aN (va_up chf (chg % 8) j)))), (rB, .inl (cB, 8, .inl (aN vbf)))] := hD
  refine lv_aload_n hx hb dX4_change_25 rfl (lv_at hl 2 rfl) ?_
  refine va_get (D := D) (ci := 6) (v := .ref rB) (C := RX4) (T := TX4) (N := 5) hx hb hts nX4_change_inX4 hown hK hP 0 rfl rfl 2 (by decide) (hts (.fieldLink RX4 18 "Gamefield$Registers" "valueBefore" "[I") (by decide +kernel)) (fun _ h9 => h9) rfl dX4_change_26 ?_
  refine lv_iload hx hb dX4_change_29 (lv_at hl 0 rfl) ?_
  refine lv_iload_n hx hb dX4_change_31 rfl (lv_at hl 1 rfl) ?_
  refine z_iast hx hb hK hP hD hS 3 2 rfl rfl (by omega) (by decide) dX4_change_32 (fun H locs hP hD hS => ?_)
  have hP : va_P D vwCl [(rg, .inr (6, [.ref rV, .ref rC, .ref rB, .int (nI chg), .int (nI kp)])), (rV, .inl (cV, 8, .inl (aN rgf))), (rC, .inl (cC, 8, .inl (aN (va_up chf (chg % 8) j)))), (rB, .inl (cB, 8, .inl (aN (va_up vbf (chg % 8) (rgf j)))))] H := hP
  have hD : va_D A [(rg, .inr (6, [.ref rV, .ref rC, .ref rB, .int (nI chg), .int (nI kp)])), (rV, .inl (cV, 8, .inl (aN rgf))), (rC, .inl (cC, 8, .inl (aN (va_up chf (chg % 8) j)))), (rB, .inl (cB, 8, .inl (aN (va_up vbf (chg % 8) (rgf j)))))] := hD
  refine lv_aload_n hx hb dX4_change_33 rfl (lv_at hl 2 rfl) ?_
  refine lv_dup hx hb dX4_change_34 rfl ?_
  refine va_get (D := D) (ci := 6) (v := .int (nI chg)) (C := RX4) (T := TX4) (N := 5) hx hb hts nX4_change_inX4 hown hK hP 0 rfl rfl 3 (by decide) (hts (.fieldLink RX4 21 "Gamefield$Registers" "changes" "I") (by decide +kernel)) (fun _ h9 => h9) rfl dX4_change_35 ?_
  refine lv_iconst (v := nI 1) hx hb dX4_change_38 zki_1 ?_
  refine z_add hx hb dX4_change_39 ?_
  refine va_put (D := D) (ci := 6) (v := .int (nI (chg + 1))) (ty := .int) (C := RX4) (T := TX4) (N := 5) hx hb hts nX4_change_inX4 tyX4 tyX4_ok nmX4 hown hK hP hD hS 0 rfl rfl 3 (by decide) (hts (.fieldLink RX4 21 "Gamefield$Registers" "changes" "I") (by decide +kernel)) (fun _ h9 => h9) rfl (by decide +kernel) rfl rfl (Nat.le_of_ble_eq_true rfl) dX4_change_40 (fun H locs hP hD hS => ?_)
  have hP : va_P D vwCl [(rg, .inr (6, [.ref rV, .ref rC, .ref rB, .int (nI (chg + 1)), .int (nI kp)])), (rV, .inl (cV, 8, .inl (aN rgf))), (rC, .inl (cC, 8, .inl (aN (va_up chf (chg % 8) j)))), (rB, .inl (cB, 8, .inl (aN (va_up vbf (chg % 8) (rgf j)))))] H := hP
  have hD : va_D A [(rg, .inr (6, [.ref rV, .ref rC, .ref rB, .int (nI (chg + 1)), .int (nI kp)])), (rV, .inl (cV, 8, .inl (aN rgf))), (rC, .inl (cC, 8, .inl (aN (va_up chf (chg % 8) j)))), (rB, .inl (cB, 8, .inl (aN (va_up vbf (chg % 8) (rgf j)))))] := hD
  refine lv_aload_n hx hb dX4_change_43 rfl (lv_at hl 2 rfl) ?_
  refine lv_aload_n hx hb dX4_change_44 rfl (lv_at hl 2 rfl) ?_
  refine va_get (D := D) (ci := 6) (v := .int (nI kp)) (C := RX4) (T := TX4) (N := 5) hx hb hts nX4_change_inX4 hown hK hP 0 rfl rfl 4 (by decide) (hts (.fieldLink RX4 25 "Gamefield$Registers" "kept" "I") (by decide +kernel)) (fun _ h9 => h9) rfl dX4_change_45 ?_
  refine lv_iconst (v := nI 1) hx hb dX4_change_48 zki_1 ?_
  refine z_add hx hb dX4_change_49 ?_
  refine lv_bipush (v := nI 8) hx hb dX4_change_50 zkb_8 ?_
  refine va_mmin hx hb (by rw [hml]; exact hl.1.symm) hown (hts (.methodLink RX4 49 Lib.Math.min.name) (by decide +kernel)) (hts (.static Lib.Math.min.name) (by decide +kernel)) (hts (.initialized "java/lang/Math") (by decide +kernel)) (hts (.code Lib.Math.min.name Lib.Math.min.code 2 (some .int)) (by decide +kernel)) (Nat.le_of_ble_eq_true rfl) (Nat.le_of_ble_eq_true rfl) (Nat.le_of_ble_eq_true rfl) (Nat.le_of_ble_eq_true rfl) dX4_change_52 ?_
  refine zt (z_min (by omega) (by omega)) ?_
  refine va_put (D := D) (ci := 6) (v := .int (nI (min (kp + 1) 8))) (ty := .int) (C := RX4) (T := TX4) (N := 5) hx hb hts nX4_change_inX4 tyX4 tyX4_ok nmX4 hown hK hP hD hS 0 rfl rfl 4 (by decide) (hts (.fieldLink RX4 25 "Gamefield$Registers" "kept" "I") (by decide +kernel)) (fun _ h9 => h9) rfl (by decide +kernel) rfl rfl (Nat.le_of_ble_eq_true rfl) dX4_change_55 (fun H locs hP hD hS => ?_)
  have hP : va_P D vwCl [(rg, .inr (6, [.ref rV, .ref rC, .ref rB, .int (nI (chg + 1)), .int (nI (min (kp + 1) 8))])), (rV, .inl (cV, 8, .inl (aN rgf))), (rC, .inl (cC, 8, .inl (aN (va_up chf (chg % 8) j)))), (rB, .inl (cB, 8, .inl (aN (va_up vbf (chg % 8) (rgf j)))))] H := hP
  have hD : va_D A [(rg, .inr (6, [.ref rV, .ref rC, .ref rB, .int (nI (chg + 1)), .int (nI (min (kp + 1) 8))])), (rV, .inl (cV, 8, .inl (aN rgf))), (rC, .inl (cC, 8, .inl (aN (va_up chf (chg % 8) j)))), (rB, .inl (cB, 8, .inl (aN (va_up vbf (chg % 8) (rgf j)))))] := hD
  refine lv_aload_n hx hb dX4_change_58 rfl (lv_at hl 2 rfl) ?_
  refine lv_iload_n hx hb dX4_change_59 rfl (lv_at hl 3 rfl) ?_
  refine lv_iload_n hx hb dX4_change_60 rfl (lv_at hl 4 rfl) ?_
  have hPc := hP.sub (ws' := [(rg, .inr (6, [.ref rV, .ref rC, .ref rB, .int (nI (chg + 1)), .int (nI (min (kp + 1) 8))])), (rV, .inl (cV, 8, .inl (aN rgf))), (rC, .inl (cC, 8, .inl (aN (va_up chf (chg % 8) j)))), (rB, .inl (cB, 8, .inl (aN (va_up vbf (chg % 8) (rgf j)))))]) [0, 1, 2, 3] rfl
  have hDc := hD.sub (ws' := [(rg, .inr (6, [.ref rV, .ref rC, .ref rB, .int (nI (chg + 1)), .int (nI (min (kp + 1) 8))])), (rV, .inl (cV, 8, .inl (aN rgf))), (rC, .inl (cC, 8, .inl (aN (va_up chf (chg % 8) j)))), (rB, .inl (cB, 8, .inl (aN (va_up vbf (chg % 8) (rgf j)))))]) [0, 1, 2, 3] (by decide) rfl
  have hKc := hK.sub (tys' := [(cV, .int), (cC, .int), (cB, .int)]) [0, 1, 2] rfl
  have hFc := va_free (wc := [(rg, .inr (6, [.ref rV, .ref rC, .ref rB, .int (nI (chg + 1)), .int (nI (min (kp + 1) 8))])), (rV, .inl (cV, 8, .inl (aN rgf))), (rC, .inl (cC, 8, .inl (aN (va_up chf (chg % 8) j)))), (rB, .inl (cB, 8, .inl (aN (va_up vbf (chg % 8) (rgf j)))))]) hD hS hA [0, 1, 2, 3] rfl
  refine va_callv (va_runV (As := [.int (nI j), .int (nI v)]) (rest := []) ⟨hx, hb, hml, hown, hts⟩ (c_X4_store l D H.size rg rV rC rB cV cC cB rgf (va_up chf (chg % 8) j) (va_up vbf (chg % 8) (rgf j)) (chg + 1) (min (kp + 1) 8) j v (by omega)) (cwV 2 hts gX4_change_X4_store rfl rfl rfl (by decide +kernel) ⟨Nat.le_of_ble_eq_true rfl, Nat.le_of_ble_eq_true rfl⟩) ⟨(z_fb2), va_recv hK hP (ci := 6) (q0 := 0) rfl rfl, fun U hU hW => ⟨rfl, by rw [hU], by rw [hU]; exact hPc, va_K.moved hW.alike hKc, hDc.weaken (fun _ _ _ _ => trivial)⟩⟩ rfl rfl hl.1 rfl (lv_room (Nat.le_of_ble_eq_true rfl)) dX4_change_61 ⟨Nat.le_of_ble_eq_true rfl, Nat.le_of_ble_eq_true rfl⟩) hS (fun q _ h => hFc q h) hFc (fun u61 t H locs ht hvm e61 hB hz1 hk1 hS => ?_)
  obtain ⟨hP1, hK1, hD1⟩ := hB
  rw [ht] at hP1
  obtain ⟨hP, hD⟩ := va_join (wr := []) (w1 := [(rg, .inr (6, [.ref rV, .ref rC, .ref rB, .int (nI (chg + 1)), .int (nI (min (kp + 1) 8))])), (rV, .inl (cV, 8, .inl (aN (va_up rgf j v)))), (rC, .inl (cC, 8, .inl (aN (va_up chf (chg % 8) j)))), (rB, .inl (cB, 8, .inl (aN (va_up vbf (chg % 8) (rgf j)))))]) hP hD [0, 1, 2, 3] [] rfl rfl (by decide) (by decide) hk1 hFc hP1 hD1
  have hP : va_P D vwCl [(rg, .inr (6, [.ref rV, .ref rC, .ref rB, .int (nI (chg + 1)), .int (nI (min (kp + 1) 8))])), (rV, .inl (cV, 8, .inl (aN (va_up rgf j v)))), (rC, .inl (cC, 8, .inl (aN (va_up chf (chg % 8) j)))), (rB, .inl (cB, 8, .inl (aN (va_up vbf (chg % 8) (rgf j)))))] H := hP
  have hD : va_D A [(rg, .inr (6, [.ref rV, .ref rC, .ref rB, .int (nI (chg + 1)), .int (nI (min (kp + 1) 8))])), (rV, .inl (cV, 8, .inl (aN (va_up rgf j v)))), (rC, .inl (cC, 8, .inl (aN (va_up chf (chg % 8) j)))), (rB, .inl (cB, 8, .inl (aN (va_up vbf (chg % 8) (rgf j)))))] := hD
  refine W.widen (k := 0) (n := 0) (Nat.le_of_ble_eq_true rfl) (Nat.le_of_ble_eq_true rfl) ?_
  refine lv_iload_n hx hb dX4_change_64 rfl (lv_at hl 4 rfl) ?_
  have hP9 := hP.sub (ws' := [(rg, .inr (6, [.ref rV, .ref rC, .ref rB, .int (nI (chg + 1)), .int (nI (min (kp + 1) 8))])), (rV, .inl (cV, 8, .inl (aN (va_up rgf j v)))), (rC, .inl (cC, 8, .inl (aN (va_up chf (chg % 8) j)))), (rB, .inl (cB, 8, .inl (aN (va_up vbf (chg % 8) (rgf j)))))]) [0, 1, 2, 3] rfl
  have hD9 := hD.sub (ws' := [(rg, .inr (6, [.ref rV, .ref rC, .ref rB, .int (nI (chg + 1)), .int (nI (min (kp + 1) 8))])), (rV, .inl (cV, 8, .inl (aN (va_up rgf j v)))), (rC, .inl (cC, 8, .inl (aN (va_up chf (chg % 8) j)))), (rB, .inl (cB, 8, .inl (aN (va_up vbf (chg % 8) (rgf j)))))]) [0, 1, 2, 3] (by decide) rfl
  have hK9 := hK.sub (tys' := [(cV, .int), (cC, .int), (cB, .int)]) [0, 1, 2] rfl
  subst hAe
  refine W.widen (k := 0) (n := 0) (Nat.le_of_ble_eq_true rfl) (Nat.le_of_ble_eq_true rfl) ?_
  exact W.iret hx hb hr (fun t ht hW => ⟨⟨_, (), rfl, (rfl), by rw [ht]; exact hP9, va_K.moved hW.alike hK9, hD9⟩, hS.F ht⟩) hS.2.2 dX4_change_65
abbrev rm_c_X4_change_x : Room := { frames := 8, cells := 1, slots := 6, locals := 132 }
abbrev q_c_X4_change_x (D : va_G) (sz : Nat) (rg : Nat) (rV : Nat) (rC : Nat) (rB : Nat) (cV : ClassId) (cC : ClassId) (cB : ClassId) (rgf : Nat → Nat) (chf : Nat → Nat) (vbf : Nat → Nat) (chg : Nat) (kp : Nat) (x : Int32) (v : Nat) : Array Value → State → Outcome → State → Prop := va_Qi (fun r (j : Nat) => j < 8 ∧ x = nI j ∧ r = nI v) (fun (j : Nat) t => va_P D vwCl [(rg, .inr (6, [.ref rV, .ref rC, .ref rB, .int (nI (chg + 1)), .int (nI (min (kp + 1) 8))])), (rV, .inl (cV, 8, .inl (aN (va_up rgf j v)))), (rC, .inl (cC, 8, .inl (aN (va_up chf (chg % 8) j)))), (rB, .inl (cB, 8, .inl (aN (va_up vbf (chg % 8) (rgf j)))))] t.heap ∧ va_K D vwCl [(cV, .int), (cC, .int), (cB, .int)] t ∧ va_D (va_A [(rg, .inr (6, [.ref rV, .ref rC, .ref rB, .int (nI chg), .int (nI kp)])), (rV, .inl (cV, 8, .inl (aN rgf))), (rC, .inl (cC, 8, .inl (aN chf))), (rB, .inl (cB, 8, .inl (aN vbf)))] sz) [(rg, .inr (6, [.ref rV, .ref rC, .ref rB, .int (nI (chg + 1)), .int (nI (min (kp + 1) 8))])), (rV, .inl (cV, 8, .inl (aN (va_up rgf j v)))), (rC, .inl (cC, 8, .inl (aN (va_up chf (chg % 8) j)))), (rB, .inl (cB, 8, .inl (aN (va_up vbf (chg % 8) (rgf j)))))]) (va_A [(rg, .inr (6, [.ref rV, .ref rC, .ref rB, .int (nI chg), .int (nI kp)])), (rV, .inl (cV, 8, .inl (aN rgf))), (rC, .inl (cC, 8, .inl (aN chf))), (rB, .inl (cB, 8, .inl (aN vbf)))] sz)
abbrev x_c_X4_change_x (D : va_G) (sz : Nat) (rg : Nat) (rV : Nat) (rC : Nat) (rB : Nat) (cV : ClassId) (cC : ClassId) (cB : ClassId) (rgf : Nat → Nat) (chf : Nat → Nat) (vbf : Nat → Nat) (chg : Nat) (kp : Nat) (x : Int32) (v : Nat) : String → State → State → Prop := vx_X (fun _ : Unit => True) (fun E (_ : Unit) t => (E = "java/lang/IndexOutOfBoundsException" ∧ inN 8 x = false) ∧ va_P D vwCl [(rg, .inr (6, [.ref rV, .ref rC, .ref rB, .int (nI chg), .int (nI kp)])), (rV, .inl (cV, 8, .inl (aN rgf))), (rC, .inl (cC, 8, .inl (aN chf))), (rB, .inl (cB, 8, .inl (aN vbf)))] t.heap ∧ va_K D vwCl [(cV, .int), (cC, .int), (cB, .int)] t ∧ va_D (va_A [(rg, .inr (6, [.ref rV, .ref rC, .ref rB, .int (nI chg), .int (nI kp)])), (rV, .inl (cV, 8, .inl (aN rgf))), (rC, .inl (cC, 8, .inl (aN chf))), (rB, .inl (cB, 8, .inl (aN vbf)))] sz) [(rg, .inr (6, [.ref rV, .ref rC, .ref rB, .int (nI chg), .int (nI kp)])), (rV, .inl (cV, 8, .inl (aN rgf))), (rC, .inl (cC, 8, .inl (aN chf))), (rB, .inl (cB, 8, .inl (aN vbf)))]) (va_A [(rg, .inr (6, [.ref rV, .ref rC, .ref rB, .int (nI chg), .int (nI kp)])), (rV, .inl (cV, 8, .inl (aN rgf))), (rC, .inl (cC, 8, .inl (aN chf))), (rB, .inl (cB, 8, .inl (aN vbf)))] sz)
set_option maxHeartbeats 4000000 in
set_option maxRecDepth 100000 in
theorem c_X4_change_x (l : Launch) (hst : l.stackTraces = false) (D : va_G) (sz : Nat) (rg : Nat) (rV : Nat) (rC : Nat) (rB : Nat) (cV : ClassId) (cC : ClassId) (cB : ClassId) (rgf : Nat → Nat) (chf : Nat → Nat) (vbf : Nat → Nat) (chg : Nat) (kp : Nat) (x : Int32) (v : Nat) (hcg : chg < 2147483647) (hkp : kp ≤ 8) : vx_Met l yX4_change wsX4_change rm_c_X4_change_x (va_Pc [.ref rg, .int x, .int (nI v)] (fun U => U.heap.size = sz ∧ va_P D vwCl [(rg, .inr (6, [.ref rV, .ref rC, .ref rB, .int (nI chg), .int (nI kp)])), (rV, .inl (cV, 8, .inl (aN rgf))), (rC, .inl (cC, 8, .inl (aN chf))), (rB, .inl (cB, 8, .inl (aN vbf)))] U.heap ∧ va_K D vwCl [(cV, .int), (cC, .int), (cB, .int)] U ∧ va_D (fun _ => True) [(rg, .inr (6, [.ref rV, .ref rC, .ref rB, .int (nI chg), .int (nI kp)])), (rV, .inl (cV, 8, .inl (aN rgf))), (rC, .inl (cC, 8, .inl (aN chf))), (rB, .inl (cB, 8, .inl (aN vbf)))] ∧ zTh (va_A [(rg, .inr (6, [.ref rV, .ref rC, .ref rB, .int (nI chg), .int (nI kp)])), (rV, .inl (cV, 8, .inl (aN rgf))), (rC, .inl (cC, 8, .inl (aN chf))), (rB, .inl (cB, 8, .inl (aN vbf)))] sz) U U.heap)) (q_c_X4_change_x D sz rg rV rC rB cV cC cB rgf chf vbf chg kp x v) (x_c_X4_change_x D sz rg rV rC rB cV cC cB rgf chf vbf chg kp x v) 1 6 (va_A [(rg, .inr (6, [.ref rV, .ref rC, .ref rB, .int (nI chg), .int (nI kp)])), (rV, .inl (cV, 8, .inl (aN rgf))), (rC, .inl (cC, 8, .inl (aN chf))), (rB, .inl (cB, 8, .inl (aN vbf)))] sz) := by
  refine vx_ofW (cc := cX4_change) (maxL := 5) (ret := (some .int)) (by decide) rfl ?_
  intro p e s m args below meth c s₁ B hml hxt hv
  obtain ⟨hargs, hsz, hP, hK, hD0, hTh⟩ := hv
  have hx := B.exec
  have hb := B.bytes
  have hr := B.returns
  have hts := atoms_spec (ws := wsX4_change) B.pre
  have hown : s.vm.findClass RX4 = some m.cls := findClass_of_methodNamed B.named
  have hlocks := B.notSynchronized
  subst hsz
  have hD := hD0.self (sz := s.heap.size)
  generalize hAe : va_A [(rg, .inr (6, [.ref rV, .ref rC, .ref rB, .int (nI chg), .int (nI kp)])), (rV, .inl (cV, 8, .inl (aN rgf))), (rC, .inl (cC, 8, .inl (aN chf))), (rB, .inl (cB, 8, .inl (aN vbf)))] s.heap.size = A at hD hTh ⊢
  have hA : ∀ q : Nat, s.heap.size ≤ q → A q := fun q h => by rw [← hAe]; exact Or.inr h
  have hS : va_S A s.heap s.heap [] := va_S.rf
  have hl := lv_entry ([.ref rg, .int x, .int (nI v)]) (n := 5) (Nat.le_of_ble_eq_true rfl)
  refine W.eq (g2 := F0 m 0 (lg_sl ([.ref rg, .int x, .int (nI v)]) ++ List.replicate (5 - (lg_sl ([.ref rg, .int x, .int (nI v)])).length) Slot.unset).toArray []) (by rw [hargs]; exact lg_entry_eq _ _ _) ?_
  generalize (lg_sl ([.ref rg, .int x, .int (nI v)]) ++ List.replicate (5 - (lg_sl ([.ref rg, .int x, .int (nI v)])).length) Slot.unset).toArray = ls at hl ⊢
  have hl : lv_has ls 5 [(0, .ref rg), (1, .int x), (2, .int (nI v))] := hl
  refine lv_aload_n hx hb dX4_change_0 rfl (lv_at hl 0 rfl) ?_
  refine lv_iload_n hx hb dX4_change_1 rfl (lv_at hl 1 rfl) ?_
  have hPc := hP.sub (ws' := [(rg, .inr (6, [.ref rV, .ref rC, .ref rB, .int (nI chg), .int (nI kp)])), (rV, .inl (cV, 8, .inl (aN rgf))), (rC, .inl (cC, 8, .inl (aN chf))), (rB, .inl (cB, 8, .inl (aN vbf)))]) [0, 1, 2, 3] rfl
  have hDc := hD.sub (ws' := [(rg, .inr (6, [.ref rV, .ref rC, .ref rB, .int (nI chg), .int (nI kp)])), (rV, .inl (cV, 8, .inl (aN rgf))), (rC, .inl (cC, 8, .inl (aN chf))), (rB, .inl (cB, 8, .inl (aN vbf)))]) [0, 1, 2, 3] (by decide) rfl
  have hKc := hK.sub (tys' := [(cV, .int), (cC, .int), (cB, .int)]) [0, 1, 2] rfl
  have hFc := va_free (wc := [(rg, .inr (6, [.ref rV, .ref rC, .ref rB, .int (nI chg), .int (nI kp)])), (rV, .inl (cV, 8, .inl (aN rgf))), (rC, .inl (cC, 8, .inl (aN chf))), (rB, .inl (cB, 8, .inl (aN vbf)))]) hD hS hA [0, 1, 2, 3] rfl
  refine vx_calli (vx_runV (As := [.int x]) (rest := []) ⟨hx, hb, hml, hown, hts⟩ (c_X4_numberOf_x l hst D s.heap.size rg rV rC rB cV cC cB rgf chf vbf chg kp x ) (cwV 1 hts gX4_change_X4_numberOf rfl rfl rfl (by decide +kernel) ⟨Nat.le_of_ble_eq_true rfl, Nat.le_of_ble_eq_true rfl⟩) ⟨z_fbX, va_recv hK hP (ci := 6) (q0 := 0) rfl rfl, fun U hU hW => ⟨rfl, by rw [hU], by rw [hU]; exact hPc, va_K.moved hW.alike hKc, hDc.weaken (fun _ _ _ _ => trivial), hTh.next hS hFc hW hU⟩⟩ rfl rfl hl.1 rfl (lv_room (Nat.le_of_ble_eq_true rfl)) dX4_change_2 ⟨Nat.le_of_ble_eq_true rfl, Nat.le_of_ble_eq_true rfl⟩) hS (fun q _ h => hFc q h) hFc (fun q _ h => hFc q h) (fun E9 ce9 q9 u9 t H locs ht hvm hpx hBX hz1 hk1 hS hce hcv hcf => ?_) (fun r2 u2 t H locs ht hvm e2 hB hz1 hk1 hS => ?_)
  · obtain ⟨hE9, hP1, hK1, hD1⟩ := hBX
    rw [ht] at hP1
    obtain ⟨hP, hD⟩ := va_join (wr := []) (w1 := [(rg, .inr (6, [.ref rV, .ref rC, .ref rB, .int (nI chg), .int (nI kp)])), (rV, .inl (cV, 8, .inl (aN rgf))), (rC, .inl (cC, 8, .inl (aN chf))), (rB, .inl (cB, 8, .inl (aN vbf)))]) hP hD [0, 1, 2, 3] [] rfl rfl (by decide) (by decide) hk1 hFc hP1 hD1
    have hP : va_P D vwCl [(rg, .inr (6, [.ref rV, .ref rC, .ref rB, .int (nI chg), .int (nI kp)])), (rV, .inl (cV, 8, .inl (aN rgf))), (rC, .inl (cC, 8, .inl (aN chf))), (rB, .inl (cB, 8, .inl (aN vbf)))] H := hP
    have hD : va_D A [(rg, .inr (6, [.ref rV, .ref rC, .ref rB, .int (nI chg), .int (nI kp)])), (rV, .inl (cV, 8, .inl (aN rgf))), (rC, .inl (cC, 8, .inl (aN chf))), (rB, .inl (cB, 8, .inl (aN vbf)))] := hD
    have hP9 := hP.sub (ws' := [(rg, .inr (6, [.ref rV, .ref rC, .ref rB, .int (nI chg), .int (nI kp)])), (rV, .inl (cV, 8, .inl (aN rgf))), (rC, .inl (cC, 8, .inl (aN chf))), (rB, .inl (cB, 8, .inl (aN vbf)))]) [0, 1, 2, 3] rfl
    have hD9 := hD.sub (ws' := [(rg, .inr (6, [.ref rV, .ref rC, .ref rB, .int (nI chg), .int (nI kp)])), (rV, .inl (cV, 8, .inl (aN rgf))), (rC, .inl (cC, 8, .inl (aN chf))), (rB, .inl (cB, 8, .inl (aN vbf)))]) [0, 1, 2, 3] (by decide) rfl
    have hK9 := hK.sub (tys' := [(cV, .int), (cC, .int), (cB, .int)]) [0, 1, 2] rfl
    subst hAe
    exact vx_out (fun x h => (hxt x h).elim) hlocks hce hcv hcf (fun t2 ht2 hvm2 => ⟨(), trivial, ⟨hE9, by rw [ht2]; exact hP9, va_K.moved hvm2 hK9, hD9⟩, hS.F ht2⟩) hS.2.2 (Nat.le_of_ble_eq_true rfl) (Nat.le_of_ble_eq_true rfl)
  · obtain ⟨j_2, rfl⟩ : ∃ z, z = u2 := ⟨_, rfl⟩
    try dsimp only at e2 hB
    obtain ⟨hj2, rfl, rfl⟩ := e2
    obtain ⟨hP1, hK1, hD1⟩ := hB
    rw [ht] at hP1
    obtain ⟨hP, hD⟩ := va_join (wr := []) (w1 := [(rg, .inr (6, [.ref rV, .ref rC, .ref rB, .int (nI chg), .int (nI kp)])), (rV, .inl (cV, 8, .inl (aN rgf))), (rC, .inl (cC, 8, .inl (aN chf))), (rB, .inl (cB, 8, .inl (aN vbf)))]) hP hD [0, 1, 2, 3] [] rfl rfl (by decide) (by decide) hk1 hFc hP1 hD1
    have hP : va_P D vwCl [(rg, .inr (6, [.ref rV, .ref rC, .ref rB, .int (nI chg), .int (nI kp)])), (rV, .inl (cV, 8, .inl (aN rgf))), (rC, .inl (cC, 8, .inl (aN chf))), (rB, .inl (cB, 8, .inl (aN vbf)))] H := hP
    have hD : va_D A [(rg, .inr (6, [.ref rV, .ref rC, .ref rB, .int (nI chg), .int (nI kp)])), (rV, .inl (cV, 8, .inl (aN rgf))), (rC, .inl (cC, 8, .inl (aN chf))), (rB, .inl (cB, 8, .inl (aN vbf)))] := hD
    refine W.widen (k := 1) (n := 6) (Nat.le_of_ble_eq_true rfl) (Nat.le_of_ble_eq_true rfl) ?_
    refine lv_istore_n (lv' := [(3, .int (nI (rgf j_2))), (0, .ref rg), (1, .int (nI j_2)), (2, .int (nI v))]) hx hb dX4_change_5 rfl hl (by decide) rfl (fun ls hl => ?_)
    refine lv_aload_n hx hb dX4_change_6 rfl (lv_at hl 1 rfl) ?_
    refine va_get (D := D) (ci := 6) (v := .int (nI chg)) (C := RX4) (T := TX4) (N := 5) hx hb hts nX4_change_inX4 hown hK hP 0 rfl rfl 3 (by decide) (hts (.fieldLink RX4 21 "Gamefield$Registers" "changes" "I") (by decide +kernel)) (fun _ h9 => h9) rfl dX4_change_7 ?_
    refine lv_bipush (v := nI 8) hx hb dX4_change_10 zkb_8 ?_
    refine z_fmod hx hb (by rw [hml]; exact hl.1.symm) hown (hts (.methodLink RX4 43 yJ9_floorMod_7cf53) (by decide +kernel)) (hts (.static yJ9_floorMod_7cf53) (by decide +kernel)) (hts (.initialized RJ9) (by decide +kernel)) (hts (.code yJ9_floorMod_7cf53 cJ9_floorMod_7cf53 3 (some .int)) (by decide +kernel)) (Nat.le_of_ble_eq_true rfl) (Nat.le_of_ble_eq_true rfl) (Nat.le_of_ble_eq_true rfl) (Nat.le_of_ble_eq_true rfl) (by omega) dX4_change_12 ?_
    refine lv_istore (lv' := [(4, .int (nI (chg % 8))), (3, .int (nI (rgf j_2))), (0, .ref rg), (1, .int (nI j_2)), (2, .int (nI v))]) hx hb dX4_change_15 hl (by decide) rfl (fun ls hl => ?_)
    refine lv_aload_n hx hb dX4_change_17 rfl (lv_at hl 2 rfl) ?_
    refine va_get (D := D) (ci := 6) (v := .ref rC) (C := RX4) (T := TX4) (N := 5) hx hb hts nX4_change_inX4 hown hK hP 0 rfl rfl 1 (by decide) (hts (.fieldLink RX4 15 "Gamefield$Registers" "changed" "[I") (by decide +kernel)) (fun _ h9 => h9) rfl dX4_change_18 ?_
    refine lv_iload hx hb dX4_change_21 (lv_at hl 0 rfl) ?_
    refine lv_iload_n hx hb dX4_change_23 rfl (lv_at hl 3 rfl) ?_
    refine z_iast hx hb hK hP hD hS 2 1 rfl rfl (by omega) (by decide) dX4_change_24 (fun H locs hP hD hS => ?_)
    have hP : va_P D vwCl [(rg, .inr (6, [.ref rV, .ref rC, .ref rB, .int (nI chg), .int (nI kp)])), (rV, .inl (cV, 8, .inl (aN rgf))), (rC, .inl (cC, 8, .inl (aN (va_up chf (chg % 8) j_2)))), (rB, .inl (cB, 8, .inl (aN vbf)))] H := hP
    have hD : va_D A [(rg, .inr (6, [.ref rV, .ref rC, .ref rB, .int (nI chg), .int (nI kp)])), (rV, .inl (cV, 8, .inl (aN rgf))), (rC, .inl (cC, 8, .inl (aN (va_up chf (chg % 8) j_2)))), (rB, .inl (cB, 8, .inl (aN vbf)))] := hD
    refine lv_aload_n hx hb dX4_change_25 rfl (lv_at hl 2 rfl) ?_
    refine va_get (D := D) (ci := 6) (v := .ref rB) (C := RX4) (T := TX4) (N := 5) hx hb hts nX4_change_inX4 hown hK hP 0 rfl rfl 2 (by decide) (hts (.fieldLink RX4 18 "Gamefield$Registers" "valueBefore" "[I") (by decide +kernel)) (fun _ h9 => h9) rfl dX4_change_26 ?_
    refine lv_iload hx hb dX4_change_29 (lv_at hl 0 rfl) ?_
    refine lv_iload_n hx hb dX4_change_31 rfl (lv_at hl 1 rfl) ?_
    refine z_iast hx hb hK hP hD hS 3 2 rfl rfl (by omega) (by decide) dX4_change_32 (fun H locs hP hD hS => ?_)
    have hP : va_P D vwCl [(rg, .inr (6, [.ref rV, .ref rC, .ref rB, .int (nI chg), .int (nI kp)])), (rV, .inl (cV, 8, .inl (aN rgf))), (rC, .inl (cC, 8, .inl (aN (va_up chf (chg % 8) j_2)))), (rB, .inl (cB, 8, .inl (aN (va_up vbf (chg % 8) (rgf j_2)))))] H := hP
    have hD : va_D A [(rg, .inr (6, [.ref rV, .ref rC, .ref rB, .int (nI chg), .int (nI kp)])), (rV, .inl (cV, 8, .inl (aN rgf))), (rC, .inl (cC, 8, .inl (aN (va_up chf (chg % 8) j_2)))), (rB, .inl (cB, 8, .inl (aN (va_up vbf (chg % 8) (rgf j_2)))))] := hD
    refine lv_aload_n hx hb dX4_change_33 rfl (lv_at hl 2 rfl) ?_
    refine lv_dup hx hb dX4_change_34 rfl ?_
    refine va_get (D := D) (ci := 6) (v := .int (nI chg)) (C := RX4) (T := TX4) (N := 5) hx hb hts nX4_change_inX4 hown hK hP 0 rfl rfl 3 (by decide) (hts (.fieldLink RX4 21 "Gamefield$Registers" "changes" "I") (by decide +kernel)) (fun _ h9 => h9) rfl dX4_change_35 ?_
    refine lv_iconst (v := nI 1) hx hb dX4_change_38 zki_1 ?_
    refine z_add hx hb dX4_change_39 ?_
    refine va_put (D := D) (ci := 6) (v := .int (nI (chg + 1))) (ty := .int) (C := RX4) (T := TX4) (N := 5) hx hb hts nX4_change_inX4 tyX4 tyX4_ok nmX4 hown hK hP hD hS 0 rfl rfl 3 (by decide) (hts (.fieldLink RX4 21 "Gamefield$Registers" "changes" "I") (by decide +kernel)) (fun _ h9 => h9) rfl (by decide +kernel) rfl rfl (Nat.le_of_ble_eq_true rfl) dX4_change_40 (fun H locs hP hD hS => ?_)
    have hP : va_P D vwCl [(rg, .inr (6, [.ref rV, .ref rC, .ref rB, .int (nI (chg + 1)), .int (nI kp)])), (rV, .inl (cV, 8, .inl (aN rgf))), (rC, .inl (cC, 8, .inl (aN (va_up chf (chg % 8) j_2)))), (rB, .inl (cB, 8, .inl (aN (va_up vbf (chg % 8) (rgf j_2)))))] H := hP
    have hD : va_D A [(rg, .inr (6, [.ref rV, .ref rC, .ref rB, .int (nI (chg + 1)), .int (nI kp)])), (rV, .inl (cV, 8, .inl (aN rgf))), (rC, .inl (cC, 8, .inl (aN (va_up chf (chg % 8) j_2)))), (rB, .inl (cB, 8, .inl (aN (va_up vbf (chg % 8) (rgf j_2)))))] := hD
    refine lv_aload_n hx hb dX4_change_43 rfl (lv_at hl 2 rfl) ?_
    refine lv_aload_n hx hb dX4_change_44 rfl (lv_at hl 2 rfl) ?_
    refine va_get (D := D) (ci := 6) (v := .int (nI kp)) (C := RX4) (T := TX4) (N := 5) hx hb hts nX4_change_inX4 hown hK hP 0 rfl rfl 4 (by decide) (hts (.fieldLink RX4 25 "Gamefield$Registers" "kept" "I") (by decide +kernel)) (fun _ h9 => h9) rfl dX4_change_45 ?_
    refine lv_iconst (v := nI 1) hx hb dX4_change_48 zki_1 ?_
    refine z_add hx hb dX4_change_49 ?_
    refine lv_bipush (v := nI 8) hx hb dX4_change_50 zkb_8 ?_
    refine va_mmin hx hb (by rw [hml]; exact hl.1.symm) hown (hts (.methodLink RX4 49 Lib.Math.min.name) (by decide +kernel)) (hts (.static Lib.Math.min.name) (by decide +kernel)) (hts (.initialized "java/lang/Math") (by decide +kernel)) (hts (.code Lib.Math.min.name Lib.Math.min.code 2 (some .int)) (by decide +kernel)) (Nat.le_of_ble_eq_true rfl) (Nat.le_of_ble_eq_true rfl) (Nat.le_of_ble_eq_true rfl) (Nat.le_of_ble_eq_true rfl) dX4_change_52 ?_
    refine zt (z_min (by omega) (by omega)) ?_
    refine va_put (D := D) (ci := 6) (v := .int (nI (min (kp + 1) 8))) (ty := .int) (C := RX4) (T := TX4) (N := 5) hx hb hts nX4_change_inX4 tyX4 tyX4_ok nmX4 hown hK hP hD hS 0 rfl rfl 4 (by decide) (hts (.fieldLink RX4 25 "Gamefield$Registers" "kept" "I") (by decide +kernel)) (fun _ h9 => h9) rfl (by decide +kernel) rfl rfl (Nat.le_of_ble_eq_true rfl) dX4_change_55 (fun H locs hP hD hS => ?_)
    have hP : va_P D vwCl [(rg, .inr (6, [.ref rV, .ref rC, .ref rB, .int (nI (chg + 1)), .int (nI (min (kp + 1) 8))])), (rV, .inl (cV, 8, .inl (aN rgf))), (rC, .inl (cC, 8, .inl (aN (va_up chf (chg % 8) j_2)))), (rB, .inl (cB, 8, .inl (aN (va_up vbf (chg % 8) (rgf j_2)))))] H := hP
    have hD : va_D A [(rg, .inr (6, [.ref rV, .ref rC, .ref rB, .int (nI (chg + 1)), .int (nI (min (kp + 1) 8))])), (rV, .inl (cV, 8, .inl (aN rgf))), (rC, .inl (cC, 8, .inl (aN (va_up chf (chg % 8) j_2)))), (rB, .inl (cB, 8, .inl (aN (va_up vbf (chg % 8) (rgf j_2)))))] := hD
    refine lv_aload_n hx hb dX4_change_58 rfl (lv_at hl 2 rfl) ?_
    refine lv_iload_n hx hb dX4_change_59 rfl (lv_at hl 3 rfl) ?_
    refine lv_iload_n hx hb dX4_change_60 rfl (lv_at hl 4 rfl) ?_
    have hPc := hP.sub (ws' := [(rg, .inr (6, [.ref rV, .ref rC, .ref rB, .int (nI (chg + 1)), .int (nI (min (kp + 1) 8))])), (rV, .inl (cV, 8, .inl (aN rgf))), (rC, .inl (cC, 8, .inl (aN (va_up chf (chg % 8) j_2)))), (rB, .inl (cB, 8, .inl (aN (va_up vbf (chg % 8) (rgf j_2)))))]) [0, 1, 2, 3] rfl
    have hDc := hD.sub (ws' := [(rg, .inr (6, [.ref rV, .ref rC, .ref rB, .int (nI (chg + 1)), .int (nI (min (kp + 1) 8))])), (rV, .inl (cV, 8, .inl (aN rgf))), (rC, .inl (cC, 8, .inl (aN (va_up chf (chg % 8) j_2)))), (rB, .inl (cB, 8, .inl (aN (va_up vbf (chg % 8) (rgf j_2)))))]) [0, 1, 2, 3] (by decide) rfl
    have hKc := hK.sub (tys' := [(cV, .int), (cC, .int), (cB, .int)]) [0, 1, 2] rfl
    have hFc := va_free (wc := [(rg, .inr (6, [.ref rV, .ref rC, .ref rB, .int (nI (chg + 1)), .int (nI (min (kp + 1) 8))])), (rV, .inl (cV, 8, .inl (aN rgf))), (rC, .inl (cC, 8, .inl (aN (va_up chf (chg % 8) j_2)))), (rB, .inl (cB, 8, .inl (aN (va_up vbf (chg % 8) (rgf j_2)))))]) hD hS hA [0, 1, 2, 3] rfl
    refine va_callv (va_runV (As := [.int (nI j_2), .int (nI v)]) (rest := []) ⟨hx, hb, hml, hown, hts⟩ (c_X4_store l D H.size rg rV rC rB cV cC cB rgf (va_up chf (chg % 8) j_2) (va_up vbf (chg % 8) (rgf j_2)) (chg + 1) (min (kp + 1) 8) j_2 v (by omega)) (cwV 2 hts gX4_change_X4_store rfl rfl rfl (by decide +kernel) ⟨Nat.le_of_ble_eq_true rfl, Nat.le_of_ble_eq_true rfl⟩) ⟨(z_fb2), va_recv hK hP (ci := 6) (q0 := 0) rfl rfl, fun U hU hW => ⟨rfl, by rw [hU], by rw [hU]; exact hPc, va_K.moved hW.alike hKc, hDc.weaken (fun _ _ _ _ => trivial)⟩⟩ rfl rfl hl.1 rfl (lv_room (Nat.le_of_ble_eq_true rfl)) dX4_change_61 ⟨Nat.le_of_ble_eq_true rfl, Nat.le_of_ble_eq_true rfl⟩) hS (fun q _ h => hFc q h) hFc (fun u61 t H locs ht hvm e61 hB hz1 hk1 hS => ?_)
    obtain ⟨hP1, hK1, hD1⟩ := hB
    rw [ht] at hP1
    obtain ⟨hP, hD⟩ := va_join (wr := []) (w1 := [(rg, .inr (6, [.ref rV, .ref rC, .ref rB, .int (nI (chg + 1)), .int (nI (min (kp + 1) 8))])), (rV, .inl (cV, 8, .inl (aN (va_up rgf j_2 v)))), (rC, .inl (cC, 8, .inl (aN (va_up chf (chg % 8) j_2)))), (rB, .inl (cB, 8, .inl (aN (va_up vbf (chg % 8) (rgf j_2)))))]) hP hD [0, 1, 2, 3] [] rfl rfl (by decide) (by decide) hk1 hFc hP1 hD1
    have hP : va_P D vwCl [(rg, .inr (6, [.ref rV, .ref rC, .ref rB, .int (nI (chg + 1)), .int (nI (min (kp + 1) 8))])), (rV, .inl (cV, 8, .inl (aN (va_up rgf j_2 v)))), (rC, .inl (cC, 8, .inl (aN (va_up chf (chg % 8) j_2)))), (rB, .inl (cB, 8, .inl (aN (va_up vbf (chg % 8) (rgf j_2)))))] H := hP
    have hD : va_D A [(rg, .inr (6, [.ref rV, .ref rC, .ref rB, .int (nI (chg + 1)), .int (nI (min (kp + 1) 8))])), (rV, .inl (cV, 8, .inl (aN (va_up rgf j_2 v)))), (rC, .inl (cC, 8, .inl (aN (va_up chf (chg % 8) j_2)))), (rB, .inl (cB, 8, .inl (aN (va_up vbf (chg % 8) (rgf j_2)))))] := hD
    refine W.widen (k := 1) (n := 6) (Nat.le_of_ble_eq_true rfl) (Nat.le_of_ble_eq_true rfl) ?_
    refine lv_iload_n hx hb dX4_change_64 rfl (lv_at hl 4 rfl) ?_
    have hP9 := hP.sub (ws' := [(rg, .inr (6, [.ref rV, .ref rC, .ref rB, .int (nI (chg + 1)), .int (nI (min (kp + 1) 8))])), (rV, .inl (cV, 8, .inl (aN (va_up rgf j_2 v)))), (rC, .inl (cC, 8, .inl (aN (va_up chf (chg % 8) j_2)))), (rB, .inl (cB, 8, .inl (aN (va_up vbf (chg % 8) (rgf j_2)))))]) [0, 1, 2, 3] rfl
    have hD9 := hD.sub (ws' := [(rg, .inr (6, [.ref rV, .ref rC, .ref rB, .int (nI (chg + 1)), .int (nI (min (kp + 1) 8))])), (rV, .inl (cV, 8, .inl (aN (va_up rgf j_2 v)))), (rC, .inl (cC, 8, .inl (aN (va_up chf (chg % 8) j_2)))), (rB, .inl (cB, 8, .inl (aN (va_up vbf (chg % 8) (rgf j_2)))))]) [0, 1, 2, 3] (by decide) rfl
    have hK9 := hK.sub (tys' := [(cV, .int), (cC, .int), (cB, .int)]) [0, 1, 2] rfl
    subst hAe
    refine W.widen (k := 1) (n := 6) (Nat.le_of_ble_eq_true rfl) (Nat.le_of_ble_eq_true rfl) ?_
    exact vx_ret <| W.iret hx hb hr (fun t ht hW => ⟨⟨_, j_2, rfl, (⟨hj2, rfl, rfl⟩), by rw [ht]; exact hP9, va_K.moved hW.alike hK9, hD9⟩, hS.F ht⟩) hS.2.2 dX4_change_65
abbrev rm_c_X4_takeBack : Room := { frames := 2, cells := 0, slots := 0, locals := 43 }
abbrev q_c_X4_takeBack (D : va_G) (sz : Nat) (rg : Nat) (rV : Nat) (rC : Nat) (rB : Nat) (cV : ClassId) (cC : ClassId) (cB : ClassId) (rgf : Nat → Nat) (chf : Nat → Nat) (vbf : Nat → Nat) (chg : Nat) (kp : Nat) : Array Value → State → Outcome → State → Prop := va_Qi (fun r (w9 : ((Nat → Nat) × Nat × Nat)) => match w9 with | (rg9, cg9, kp9) => r = oI (if kp = 0 then none else some (chf ((chg - 1) % 8))) ∧ rg9 = (if kp = 0 then rgf else va_up rgf (chf ((chg - 1) % 8)) (vbf ((chg - 1) % 8))) ∧ cg9 = (if kp = 0 then chg else chg - 1) ∧ kp9 = (kp - 1)) (fun (w9 : ((Nat → Nat) × Nat × Nat)) t => match w9 with | (rg9, cg9, kp9) => va_P D vwCl [(rg, .inr (6, [.ref rV, .ref rC, .ref rB, .int (nI cg9), .int (nI kp9)])), (rV, .inl (cV, 8, .inl (aN rg9))), (rC, .inl (cC, 8, .inl (aN chf))), (rB, .inl (cB, 8, .inl (aN vbf)))] t.heap ∧ va_K D vwCl [(cV, .int), (cC, .int), (cB, .int)] t ∧ va_D (va_A [(rg, .inr (6, [.ref rV, .ref rC, .ref rB, .int (nI chg), .int (nI kp)])), (rV, .inl (cV, 8, .inl (aN rgf))), (rC, .inl (cC, 8, .inl (aN chf))), (rB, .inl (cB, 8, .inl (aN vbf)))] sz) [(rg, .inr (6, [.ref rV, .ref rC, .ref rB, .int (nI cg9), .int (nI kp9)])), (rV, .inl (cV, 8, .inl (aN rg9))), (rC, .inl (cC, 8, .inl (aN chf))), (rB, .inl (cB, 8, .inl (aN vbf)))]) (va_A [(rg, .inr (6, [.ref rV, .ref rC, .ref rB, .int (nI chg), .int (nI kp)])), (rV, .inl (cV, 8, .inl (aN rgf))), (rC, .inl (cC, 8, .inl (aN chf))), (rB, .inl (cB, 8, .inl (aN vbf)))] sz)
set_option maxHeartbeats 4000000 in
set_option maxRecDepth 100000 in
theorem c_X4_takeBack (l : Launch) (D : va_G) (sz : Nat) (rg : Nat) (rV : Nat) (rC : Nat) (rB : Nat) (cV : ClassId) (cC : ClassId) (cB : ClassId) (rgf : Nat → Nat) (chf : Nat → Nat) (vbf : Nat → Nat) (chg : Nat) (kp : Nat) (hkc : kp ≤ chg) (hcg : chg < 2147483647) (hkp : kp ≤ 8) (hch : ∀ k, k < 8 → chf k < 8) : Met l yX4_takeBack wsX4_takeBack rm_c_X4_takeBack (va_Pc [.ref rg] (fun U => U.heap.size = sz ∧ va_P D vwCl [(rg, .inr (6, [.ref rV, .ref rC, .ref rB, .int (nI chg), .int (nI kp)])), (rV, .inl (cV, 8, .inl (aN rgf))), (rC, .inl (cC, 8, .inl (aN chf))), (rB, .inl (cB, 8, .inl (aN vbf)))] U.heap ∧ va_K D vwCl [(cV, .int), (cC, .int), (cB, .int)] U ∧ va_D (fun _ => True) [(rg, .inr (6, [.ref rV, .ref rC, .ref rB, .int (nI chg), .int (nI kp)])), (rV, .inl (cV, 8, .inl (aN rgf))), (rC, .inl (cC, 8, .inl (aN chf))), (rB, .inl (cB, 8, .inl (aN vbf)))])) (q_c_X4_takeBack D sz rg rV rC rB cV cC cB rgf chf vbf chg kp) 0 0 (va_A [(rg, .inr (6, [.ref rV, .ref rC, .ref rB, .int (nI chg), .int (nI kp)])), (rV, .inl (cV, 8, .inl (aN rgf))), (rC, .inl (cC, 8, .inl (aN chf))), (rB, .inl (cB, 8, .inl (aN vbf)))] sz) := by
  refine Met.ofW (cc := cX4_takeBack) (maxL := 2) (ret := (some .int)) (by decide) rfl ?_
  intro p e s m args below meth c s₁ B hml hv
  obtain ⟨hargs, hsz, hP, hK, hD0⟩ := hv
  have hx := B.exec
  have hb := B.bytes
  have hr := B.returns
  have hts := atoms_spec (ws := wsX4_takeBack) B.pre
  have hown : s.vm.findClass RX4 = some m.cls := findClass_of_methodNamed B.named
  have hlocks := B.notSynchronized
  subst hsz
  have hD := hD0.self (sz := s.heap.size)
  generalize hAe : va_A [(rg, .inr (6, [.ref rV, .ref rC, .ref rB, .int (nI chg), .int (nI kp)])), (rV, .inl (cV, 8, .inl (aN rgf))), (rC, .inl (cC, 8, .inl (aN chf))), (rB, .inl (cB, 8, .inl (aN vbf)))] s.heap.size = A at hD ⊢
  have hA : ∀ q : Nat, s.heap.size ≤ q → A q := fun q h => by rw [← hAe]; exact Or.inr h
  have hS : va_S A s.heap s.heap [] := va_S.rf
  have hl := lv_entry ([.ref rg]) (n := 2) (Nat.le_of_ble_eq_true rfl)
  refine W.eq (g2 := F0 m 0 (lg_sl ([.ref rg]) ++ List.replicate (2 - (lg_sl ([.ref rg])).length) Slot.unset).toArray []) (by rw [hargs]; exact lg_entry_eq _ _ _) ?_
  generalize (lg_sl ([.ref rg]) ++ List.replicate (2 - (lg_sl ([.ref rg])).length) Slot.unset).toArray = ls at hl ⊢
  have hl : lv_has ls 2 [(0, .ref rg)] := hl
  refine lv_aload_n hx hb dX4_takeBack_0 rfl (lv_at hl 0 rfl) ?_
  refine va_get (D := D) (ci := 6) (v := .int (nI kp)) (C := RX4) (T := TX4) (N := 5) hx hb hts nX4_takeBack_inX4 hown hK hP 0 rfl rfl 4 (by decide) (hts (.fieldLink RX4 25 "Gamefield$Registers" "kept" "I") (by decide +kernel)) (fun _ h9 => h9) rfl dX4_takeBack_1 ?_
  refine z_fne (tgt := 9) hx hb (by omega) dX4_takeBack_4 (by decide) (fun c_4 => ?_) (fun c_4 => ?_)
  · refine lv_aload_n hx hb dX4_takeBack_9 rfl (lv_at hl 0 rfl) ?_
    refine lv_dup hx hb dX4_takeBack_10 rfl ?_
    refine va_get (D := D) (ci := 6) (v := .int (nI kp)) (C := RX4) (T := TX4) (N := 5) hx hb hts nX4_takeBack_inX4 hown hK hP 0 rfl rfl 4 (by decide) (hts (.fieldLink RX4 25 "Gamefield$Registers" "kept" "I") (by decide +kernel)) (fun _ h9 => h9) rfl dX4_takeBack_11 ?_
    refine lv_iconst (v := nI 1) hx hb dX4_takeBack_14 zki_1 ?_
    refine z_sub hx hb (c_4) dX4_takeBack_15 ?_
    refine va_put (D := D) (ci := 6) (v := .int (nI (kp - 1))) (ty := .int) (C := RX4) (T := TX4) (N := 5) hx hb hts nX4_takeBack_inX4 tyX4 tyX4_ok nmX4 hown hK hP hD hS 0 rfl rfl 4 (by decide) (hts (.fieldLink RX4 25 "Gamefield$Registers" "kept" "I") (by decide +kernel)) (fun _ h9 => h9) rfl (by decide +kernel) rfl rfl (Nat.le_of_ble_eq_true rfl) dX4_takeBack_16 (fun H locs hP hD hS => ?_)
    have hP : va_P D vwCl [(rg, .inr (6, [.ref rV, .ref rC, .ref rB, .int (nI chg), .int (nI (kp - 1))])), (rV, .inl (cV, 8, .inl (aN rgf))), (rC, .inl (cC, 8, .inl (aN chf))), (rB, .inl (cB, 8, .inl (aN vbf)))] H := hP
    have hD : va_D A [(rg, .inr (6, [.ref rV, .ref rC, .ref rB, .int (nI chg), .int (nI (kp - 1))])), (rV, .inl (cV, 8, .inl (aN rgf))), (rC, .inl (cC, 8, .inl (aN chf))), (rB, .inl (cB, 8, .inl (aN vbf)))] := hD
    refine lv_aload_n hx hb dX4_takeBack_19 rfl (lv_at hl 0 rfl) ?_
    refine lv_dup hx hb dX4_takeBack_20 rfl ?_
    refine va_get (D := D) (ci := 6) (v := .int (nI chg)) (C := RX4) (T := TX4) (N := 5) hx hb hts nX4_takeBack_inX4 hown hK hP 0 rfl rfl 3 (by decide) (hts (.fieldLink RX4 21 "Gamefield$Registers" "changes" "I") (by decide +kernel)) (fun _ h9 => h9) rfl dX4_takeBack_21 ?_
    refine lv_iconst (v := nI 1) hx hb dX4_takeBack_24 zki_1 ?_
    refine z_sub hx hb (by omega) dX4_takeBack_25 ?_
    refine va_put (D := D) (ci := 6) (v := .int (nI (chg - 1))) (ty := .int) (C := RX4) (T := TX4) (N := 5) hx hb hts nX4_takeBack_inX4 tyX4 tyX4_ok nmX4 hown hK hP hD hS 0 rfl rfl 3 (by decide) (hts (.fieldLink RX4 21 "Gamefield$Registers" "changes" "I") (by decide +kernel)) (fun _ h9 => h9) rfl (by decide +kernel) rfl rfl (Nat.le_of_ble_eq_true rfl) dX4_takeBack_26 (fun H locs hP hD hS => ?_)
    have hP : va_P D vwCl [(rg, .inr (6, [.ref rV, .ref rC, .ref rB, .int (nI (chg - 1)), .int (nI (kp - 1))])), (rV, .inl (cV, 8, .inl (aN rgf))), (rC, .inl (cC, 8, .inl (aN chf))), (rB, .inl (cB, 8, .inl (aN vbf)))] H := hP
    have hD : va_D A [(rg, .inr (6, [.ref rV, .ref rC, .ref rB, .int (nI (chg - 1)), .int (nI (kp - 1))])), (rV, .inl (cV, 8, .inl (aN rgf))), (rC, .inl (cC, 8, .inl (aN chf))), (rB, .inl (cB, 8, .inl (aN vbf)))] := hD
    refine lv_aload_n hx hb dX4_takeBack_29 rfl (lv_at hl 0 rfl) ?_
    refine va_get (D := D) (ci := 6) (v := .int (nI (chg - 1))) (C := RX4) (T := TX4) (N := 5) hx hb hts nX4_takeBack_inX4 hown hK hP 0 rfl rfl 3 (by decide) (hts (.fieldLink RX4 21 "Gamefield$Registers" "changes" "I") (by decide +kernel)) (fun _ h9 => h9) rfl dX4_takeBack_30 ?_
    refine lv_bipush (v := nI 8) hx hb dX4_takeBack_33 zkb_8 ?_
    refine z_fmod hx hb (by rw [hml]; exact hl.1.symm) hown (hts (.methodLink RX4 43 yJ9_floorMod_7cf53) (by decide +kernel)) (hts (.static yJ9_floorMod_7cf53) (by decide +kernel)) (hts (.initialized RJ9) (by decide +kernel)) (hts (.code yJ9_floorMod_7cf53 cJ9_floorMod_7cf53 3 (some .int)) (by decide +kernel)) (Nat.le_of_ble_eq_true rfl) (Nat.le_of_ble_eq_true rfl) (Nat.le_of_ble_eq_true rfl) (Nat.le_of_ble_eq_true rfl) (by omega) dX4_takeBack_35 ?_
    refine lv_istore_n (lv' := [(1, .int (nI ((chg - 1) % 8))), (0, .ref rg)]) hx hb dX4_takeBack_38 rfl hl (by decide) rfl (fun ls hl => ?_)
    refine lv_aload_n hx hb dX4_takeBack_39 rfl (lv_at hl 1 rfl) ?_
    refine lv_aload_n hx hb dX4_takeBack_40 rfl (lv_at hl 1 rfl) ?_
    refine va_get (D := D) (ci := 6) (v := .ref rC) (C := RX4) (T := TX4) (N := 5) hx hb hts nX4_takeBack_inX4 hown hK hP 0 rfl rfl 1 (by decide) (hts (.fieldLink RX4 15 "Gamefield$Registers" "changed" "[I") (by decide +kernel)) (fun _ h9 => h9) rfl dX4_takeBack_41 ?_
    refine lv_iload_n hx hb dX4_takeBack_44 rfl (lv_at hl 0 rfl) ?_
    refine z_iald hx hb hK hP 2 1 rfl rfl (by omega) (by decide) dX4_takeBack_45 ?_
    refine lv_aload_n hx hb dX4_takeBack_46 rfl (lv_at hl 1 rfl) ?_
    refine va_get (D := D) (ci := 6) (v := .ref rB) (C := RX4) (T := TX4) (N := 5) hx hb hts nX4_takeBack_inX4 hown hK hP 0 rfl rfl 2 (by decide) (hts (.fieldLink RX4 18 "Gamefield$Registers" "valueBefore" "[I") (by decide +kernel)) (fun _ h9 => h9) rfl dX4_takeBack_47 ?_
    refine lv_iload_n hx hb dX4_takeBack_50 rfl (lv_at hl 0 rfl) ?_
    refine z_iald hx hb hK hP 3 2 rfl rfl (by omega) (by decide) dX4_takeBack_51 ?_
    have hPc := hP.sub (ws' := [(rg, .inr (6, [.ref rV, .ref rC, .ref rB, .int (nI (chg - 1)), .int (nI (kp - 1))])), (rV, .inl (cV, 8, .inl (aN rgf))), (rC, .inl (cC, 8, .inl (aN chf))), (rB, .inl (cB, 8, .inl (aN vbf)))]) [0, 1, 2, 3] rfl
    have hDc := hD.sub (ws' := [(rg, .inr (6, [.ref rV, .ref rC, .ref rB, .int (nI (chg - 1)), .int (nI (kp - 1))])), (rV, .inl (cV, 8, .inl (aN rgf))), (rC, .inl (cC, 8, .inl (aN chf))), (rB, .inl (cB, 8, .inl (aN vbf)))]) [0, 1, 2, 3] (by decide) rfl
    have hKc := hK.sub (tys' := [(cV, .int), (cC, .int), (cB, .int)]) [0, 1, 2] rfl
    have hFc := va_free (wc := [(rg, .inr (6, [.ref rV, .ref rC, .ref rB, .int (nI (chg - 1)), .int (nI (kp - 1))])), (rV, .inl (cV, 8, .inl (aN rgf))), (rC, .inl (cC, 8, .inl (aN chf))), (rB, .inl (cB, 8, .inl (aN vbf)))]) hD hS hA [0, 1, 2, 3] rfl
    refine va_callv (va_runV (As := [.int (nI (chf ((chg - 1) % 8))), .int (nI (vbf ((chg - 1) % 8)))]) (rest := []) ⟨hx, hb, hml, hown, hts⟩ (c_X4_store l D H.size rg rV rC rB cV cC cB rgf chf vbf (chg - 1) (kp - 1) (chf ((chg - 1) % 8)) (vbf ((chg - 1) % 8)) (hch _ (Nat.mod_lt _ (by decide)))) (cwV 2 hts gX4_takeBack_X4_store rfl rfl rfl (by decide +kernel) ⟨Nat.le_of_ble_eq_true rfl, Nat.le_of_ble_eq_true rfl⟩) ⟨(z_fb2), va_recv hK hP (ci := 6) (q0 := 0) rfl rfl, fun U hU hW => ⟨rfl, by rw [hU], by rw [hU]; exact hPc, va_K.moved hW.alike hKc, hDc.weaken (fun _ _ _ _ => trivial)⟩⟩ rfl rfl hl.1 rfl (lv_room (Nat.le_of_ble_eq_true rfl)) dX4_takeBack_52 ⟨Nat.le_of_ble_eq_true rfl, Nat.le_of_ble_eq_true rfl⟩) hS (fun q _ h => hFc q h) hFc (fun u52 t H locs ht hvm e52 hB hz1 hk1 hS => ?_)
    obtain ⟨hP1, hK1, hD1⟩ := hB
    rw [ht] at hP1
    obtain ⟨hP, hD⟩ := va_join (wr := []) (w1 := [(rg, .inr (6, [.ref rV, .ref rC, .ref rB, .int (nI (chg - 1)), .int (nI (kp - 1))])), (rV, .inl (cV, 8, .inl (aN (va_up rgf (chf ((chg - 1) % 8)) (vbf ((chg - 1) % 8)))))), (rC, .inl (cC, 8, .inl (aN chf))), (rB, .inl (cB, 8, .inl (aN vbf)))]) hP hD [0, 1, 2, 3] [] rfl rfl (by decide) (by decide) hk1 hFc hP1 hD1
    have hP : va_P D vwCl [(rg, .inr (6, [.ref rV, .ref rC, .ref rB, .int (nI (chg - 1)), .int (nI (kp - 1))])), (rV, .inl (cV, 8, .inl (aN (va_up rgf (chf ((chg - 1) % 8)) (vbf ((chg - 1) % 8)))))), (rC, .inl (cC, 8, .inl (aN chf))), (rB, .inl (cB, 8, .inl (aN vbf)))] H := hP
    have hD : va_D A [(rg, .inr (6, [.ref rV, .ref rC, .ref rB, .int (nI (chg - 1)), .int (nI (kp - 1))])), (rV, .inl (cV, 8, .inl (aN (va_up rgf (chf ((chg - 1) % 8)) (vbf ((chg - 1) % 8)))))), (rC, .inl (cC, 8, .inl (aN chf))), (rB, .inl (cB, 8, .inl (aN vbf)))] := hD
    refine W.widen (k := 0) (n := 0) (Nat.le_of_ble_eq_true rfl) (Nat.le_of_ble_eq_true rfl) ?_
    refine lv_aload_n hx hb dX4_takeBack_55 rfl (lv_at hl 1 rfl) ?_
    refine va_get (D := D) (ci := 6) (v := .ref rC) (C := RX4) (T := TX4) (N := 5) hx hb hts nX4_takeBack_inX4 hown hK hP 0 rfl rfl 1 (by decide) (hts (.fieldLink RX4 15 "Gamefield$Registers" "changed" "[I") (by decide +kernel)) (fun _ h9 => h9) rfl dX4_takeBack_56 ?_
    refine lv_iload_n hx hb dX4_takeBack_59 rfl (lv_at hl 0 rfl) ?_
    refine z_iald hx hb hK hP 2 1 rfl rfl (by omega) (by decide) dX4_takeBack_60 ?_
    have hP9 := hP.sub (ws' := [(rg, .inr (6, [.ref rV, .ref rC, .ref rB, .int (nI (chg - 1)), .int (nI (kp - 1))])), (rV, .inl (cV, 8, .inl (aN (va_up rgf (chf ((chg - 1) % 8)) (vbf ((chg - 1) % 8)))))), (rC, .inl (cC, 8, .inl (aN chf))), (rB, .inl (cB, 8, .inl (aN vbf)))]) [0, 1, 2, 3] rfl
    have hD9 := hD.sub (ws' := [(rg, .inr (6, [.ref rV, .ref rC, .ref rB, .int (nI (chg - 1)), .int (nI (kp - 1))])), (rV, .inl (cV, 8, .inl (aN (va_up rgf (chf ((chg - 1) % 8)) (vbf ((chg - 1) % 8)))))), (rC, .inl (cC, 8, .inl (aN chf))), (rB, .inl (cB, 8, .inl (aN vbf)))]) [0, 1, 2, 3] (by decide) rfl
    have hK9 := hK.sub (tys' := [(cV, .int), (cC, .int), (cB, .int)]) [0, 1, 2] rfl
    subst hAe
    refine W.widen (k := 0) (n := 0) (Nat.le_of_ble_eq_true rfl) (Nat.le_of_ble_eq_true rfl) ?_
    exact W.iret hx hb hr (fun t ht hW => ⟨⟨_, (va_up rgf (chf ((chg - 1) % 8)) (vbf ((chg - 1) % 8)), (chg - 1), (kp - 1)), rfl, (⟨by rw [if_neg (by omega)]; rfl, by rw [if_neg (by omega)], by rw [if_neg (by omega)], rfl⟩), by rw [ht]; exact hP9, va_K.moved hW.alike hK9, hD9⟩, hS.F ht⟩) hS.2.2 dX4_takeBack_61
  · refine lv_iconst (v := (-1)) hx hb dX4_takeBack_7 zki_m1 ?_
    have hP9 := hP.sub (ws' := [(rg, .inr (6, [.ref rV, .ref rC, .ref rB, .int (nI chg), .int (nI kp)])), (rV, .inl (cV, 8, .inl (aN rgf))), (rC, .inl (cC, 8, .inl (aN chf))), (rB, .inl (cB, 8, .inl (aN vbf)))]) [0, 1, 2, 3] rfl
    have hD9 := hD.sub (ws' := [(rg, .inr (6, [.ref rV, .ref rC, .ref rB, .int (nI chg), .int (nI kp)])), (rV, .inl (cV, 8, .inl (aN rgf))), (rC, .inl (cC, 8, .inl (aN chf))), (rB, .inl (cB, 8, .inl (aN vbf)))]) [0, 1, 2, 3] (by decide) rfl
    have hK9 := hK.sub (tys' := [(cV, .int), (cC, .int), (cB, .int)]) [0, 1, 2] rfl
    subst hAe
    refine W.widen (k := 0) (n := 0) (Nat.le_of_ble_eq_true rfl) (Nat.le_of_ble_eq_true rfl) ?_
    exact W.iret hx hb hr (fun t ht hW => ⟨⟨_, (rgf, chg, kp), rfl, (⟨by rw [if_pos c_4]; rfl, by rw [if_pos c_4], by rw [if_pos c_4], by omega⟩), by rw [ht]; exact hP9, va_K.moved hW.alike hK9, hD9⟩, hS.F ht⟩) hS.2.2 dX4_takeBack_8
abbrev rm_c_X4_countKept : Room := { frames := 0, cells := 0, slots := 0, locals := 0 }
abbrev q_c_X4_countKept (D : va_G) (rg : Nat) (rV : Nat) (rC : Nat) (rB : Nat) (cV : ClassId) (cC : ClassId) (cB : ClassId) (rgf : Nat → Nat) (chf : Nat → Nat) (vbf : Nat → Nat) (chg : Nat) (kp : Nat) : Array Value → State → Outcome → State → Prop := vp_Si (fun r => r = (nI kp))
set_option maxHeartbeats 4000000 in
set_option maxRecDepth 100000 in
theorem c_X4_countKept (l : Launch) (D : va_G) (rg : Nat) (rV : Nat) (rC : Nat) (rB : Nat) (cV : ClassId) (cC : ClassId) (cB : ClassId) (rgf : Nat → Nat) (chf : Nat → Nat) (vbf : Nat → Nat) (chg : Nat) (kp : Nat) : Met l yX4_countKept wsX4_countKept rm_c_X4_countKept (va_Pc [.ref rg] (fun U => va_P D vwCl [(rg, .inr (6, [.ref rV, .ref rC, .ref rB, .int (nI chg), .int (nI kp)])), (rV, .inl (cV, 8, .inl (aN rgf))), (rC, .inl (cC, 8, .inl (aN chf))), (rB, .inl (cB, 8, .inl (aN vbf)))] U.heap ∧ va_K D vwCl [(cV, .int), (cC, .int), (cB, .int)] U)) (q_c_X4_countKept D rg rV rC rB cV cC cB rgf chf vbf chg kp) 0 0 (fun _ => False) := by
  refine Met.ofW (cc := cX4_countKept) (maxL := 1) (ret := (some .int)) (by decide) rfl ?_
  intro p e s m args below meth c s₁ B hml hv
  obtain ⟨hargs, hP, hK⟩ := hv
  have hx := B.exec
  have hb := B.bytes
  have hr := B.returns
  have hts := atoms_spec (ws := wsX4_countKept) B.pre
  have hown : s.vm.findClass RX4 = some m.cls := findClass_of_methodNamed B.named
  have hlocks := B.notSynchronized
  have hl := lv_entry ([.ref rg]) (n := 1) (Nat.le_of_ble_eq_true rfl)
  refine W.eq (g2 := F0 m 0 (lg_sl ([.ref rg]) ++ List.replicate (1 - (lg_sl ([.ref rg])).length) Slot.unset).toArray []) (by rw [hargs]; exact lg_entry_eq _ _ _) ?_
  generalize (lg_sl ([.ref rg]) ++ List.replicate (1 - (lg_sl ([.ref rg])).length) Slot.unset).toArray = ls at hl ⊢
  have hl : lv_has ls 1 [(0, .ref rg)] := hl
  refine lv_aload_n hx hb dX4_countKept_0 rfl (lv_at hl 0 rfl) ?_
  refine va_get (D := D) (ci := 6) (v := .int (nI kp)) (C := RX4) (T := TX4) (N := 5) hx hb hts nX4_countKept_inX4 hown hK hP 0 rfl rfl 4 (by decide) (hts (.fieldLink RX4 25 "Gamefield$Registers" "kept" "I") (by decide +kernel)) (fun _ h9 => h9) rfl dX4_countKept_1 ?_
  exact W.iret hx hb hr (fun t ht _ => ⟨_, rfl, (rfl), ht⟩) (fun _ h => nomatch h) dX4_countKept_4
abbrev rm_c_X4_total : Room := { frames := 0, cells := 0, slots := 0, locals := 0 }
abbrev q_c_X4_total (D : va_G) (rg : Nat) (rV : Nat) (rC : Nat) (rB : Nat) (cV : ClassId) (cC : ClassId) (cB : ClassId) (rgf : Nat → Nat) (chf : Nat → Nat) (vbf : Nat → Nat) (chg : Nat) (kp : Nat) : Array Value → State → Outcome → State → Prop := vp_Si (fun r => r = (nI (sm rgf 8)))
set_option maxHeartbeats 4000000 in
set_option maxRecDepth 100000 in
theorem c_X4_total (l : Launch) (D : va_G) (rg : Nat) (rV : Nat) (rC : Nat) (rB : Nat) (cV : ClassId) (cC : ClassId) (cB : ClassId) (rgf : Nat → Nat) (chf : Nat → Nat) (vbf : Nat → Nat) (chg : Nat) (kp : Nat) : Met l yX4_total wsX4_total rm_c_X4_total (va_Pc [.ref rg] (fun U => va_P D vwCl [(rg, .inr (6, [.ref rV, .ref rC, .ref rB, .int (nI chg), .int (nI kp)])), (rV, .inl (cV, 8, .inl (aN rgf))), (rC, .inl (cC, 8, .inl (aN chf))), (rB, .inl (cB, 8, .inl (aN vbf)))] U.heap ∧ va_K D vwCl [(cV, .int), (cC, .int), (cB, .int)] U)) (q_c_X4_total D rg rV rC rB cV cC cB rgf chf vbf chg kp) 0 0 (fun _ => False) := by
  refine Met.ofW (cc := cX4_total) (maxL := 6) (ret := (some .int)) (by decide) rfl ?_
  intro p e s m args below meth c s₁ B hml hv
  obtain ⟨hargs, hP, hK⟩ := hv
  have hx := B.exec
  have hb := B.bytes
  have hr := B.returns
  have hts := atoms_spec (ws := wsX4_total) B.pre
  have hown : s.vm.findClass RX4 = some m.cls := findClass_of_methodNamed B.named
  have hlocks := B.notSynchronized
  have hl := lv_entry ([.ref rg]) (n := 6) (Nat.le_of_ble_eq_true rfl)
  refine W.eq (g2 := F0 m 0 (lg_sl ([.ref rg]) ++ List.replicate (6 - (lg_sl ([.ref rg])).length) Slot.unset).toArray []) (by rw [hargs]; exact lg_entry_eq _ _ _) ?_
  generalize (lg_sl ([.ref rg]) ++ List.replicate (6 - (lg_sl ([.ref rg])).length) Slot.unset).toArray = ls at hl ⊢
  have hl : lv_has ls 6 [(0, .ref rg)] := hl
  refine lv_iconst (v := nI 0) hx hb dX4_total_0 zki_0 ?_
  refine lv_istore_n (lv' := [(1, .int (nI 0)), (0, .ref rg)]) hx hb dX4_total_1 rfl hl (by decide) rfl (fun ls hl => ?_)
  refine lv_aload_n hx hb dX4_total_2 rfl (lv_at hl 1 rfl) ?_
  refine va_get (D := D) (ci := 6) (v := .ref rV) (C := RX4) (T := TX4) (N := 5) hx hb hts nX4_total_inX4 hown hK hP 0 rfl rfl 0 (by decide) (hts (.fieldLink RX4 11 "Gamefield$Registers" "values" "[I") (by decide +kernel)) (fun _ h9 => h9) rfl dX4_total_3 ?_
  refine lv_astore_n (lv' := [(2, .ref rV), (1, .int (nI 0)), (0, .ref rg)]) hx hb dX4_total_6 rfl hl (by decide) rfl (fun ls hl => ?_)
  refine lv_aload_n hx hb dX4_total_7 rfl (lv_at hl 0 rfl) ?_
  refine va_alen (v := nI 8) hx hb hK hP 1 0 rfl rfl rfl dX4_total_8 ?_
  refine lv_istore_n (lv' := [(3, .int (nI 8)), (2, .ref rV), (1, .int (nI 0)), (0, .ref rg)]) hx hb dX4_total_9 rfl hl (by decide) rfl (fun ls hl => ?_)
  refine lv_iconst (v := nI 0) hx hb dX4_total_10 zki_0 ?_
  refine lv_istore (lv' := [(4, .int (nI 0)), (3, .int (nI 8)), (2, .ref rV), (1, .int (nI 0)), (0, .ref rg)]) hx hb dX4_total_11 hl (by decide) rfl (fun ls hl => ?_)
  have cut_13 : ∀ (nn9 : Nat) (i : Nat) (hi : i ≤ 8) (hn9 : 8 - i < nn9) (ls : Array Slot) (hl : lv_has ls 6 [(0, .ref rg), (1, .int (nI (sm rgf i))), (2, .ref rV), (3, .int (nI 8)), (4, .int (nI i))]), W p l e (headSpec wsX4_total rm_c_X4_total).room s m args below meth c s.heap [] 0 0 (MQ below (q_c_X4_total D rg rV rC rB cV cC cB rgf chf vbf chg kp) args s 0 0 (fun _ => False)) (F0 m 13 ls []) := by
    intro nn9
    induction nn9 with
    | zero => intro i hi hn9; exact absurd hn9 (Nat.not_lt_zero _)
    | succ nn9 ih_13 =>
      intro i hi hn9 ls hl
      refine lv_iload hx hb dX4_total_13 (lv_at hl 4 rfl) ?_
      refine lv_iload_n hx hb dX4_total_15 rfl (lv_at hl 3 rfl) ?_
      refine z_cge (tgt := 36) hx hb (by omega) (by omega) dX4_total_16 (by decide) (fun c_16 => ?_) (fun c_16 => ?_)
      · refine lv_iload_n hx hb dX4_total_36 rfl (lv_at hl 1 rfl) ?_
        exact W.iret hx hb hr (fun t ht _ => ⟨_, rfl, (by rw [show i = 8 by omega]), ht⟩) (fun _ h => nomatch h) dX4_total_37
      · refine lv_aload_n hx hb dX4_total_19 rfl (lv_at hl 2 rfl) ?_
        refine lv_iload hx hb dX4_total_20 (lv_at hl 4 rfl) ?_
        refine z_iald hx hb hK hP 1 0 rfl rfl (by omega) (by decide) dX4_total_22 ?_
        refine lv_istore (lv' := [(5, .int (nI (rgf i))), (0, .ref rg), (1, .int (nI (sm rgf i))), (2, .ref rV), (3, .int (nI 8)), (4, .int (nI i))]) hx hb dX4_total_23 hl (by decide) rfl (fun ls hl => ?_)
        refine lv_iload_n hx hb dX4_total_25 rfl (lv_at hl 2 rfl) ?_
        refine lv_iload hx hb dX4_total_26 (lv_at hl 0 rfl) ?_
        refine z_add hx hb dX4_total_28 ?_
        refine lv_istore_n (lv' := [(1, .int (nI ((sm rgf i) + (rgf i)))), (5, .int (nI (rgf i))), (0, .ref rg), (2, .ref rV), (3, .int (nI 8)), (4, .int (nI i))]) hx hb dX4_total_29 rfl hl (by decide) rfl (fun ls hl => ?_)
        refine lv_iinc (v := (nI (i + 1))) (lv' := [(4, .int (nI (i + 1))), (1, .int (nI ((sm rgf i) + (rgf i)))), (5, .int (nI (rgf i))), (0, .ref rg), (2, .ref rV), (3, .int (nI 8))]) hx hb dX4_total_30 hl (k := 5) rfl (z_inc i 1) (by decide) rfl (fun ls hl => ?_)
        refine lv_goto (tgt := 13) hx hb dX4_total_33 (by decide) ?_
        have hl : lv_has ls 6 [(4, .int (nI (i + 1))), (1, .int (nI (sm rgf (i + 1)))), (5, .int (nI (rgf i))), (0, .ref rg), (2, .ref rV), (3, .int (nI 8))] := Eq.mp (congrArg (fun z9 => lv_has ls 6 [(4, .int (nI (i + 1))), (1, .int z9), (5, .int (nI (rgf i))), (0, .ref rg), (2, .ref rV), (3, .int (nI 8))]) (congrArg nI (show ((sm rgf i) + (rgf i)) = sm rgf (i + 1) from rfl))) hl
        exact ih_13 (i + 1) (by omega) (by omega) ls (lv_sub hl [3, 1, 4, 5, 0] rfl)
  have hl : lv_has ls 6 [(4, .int (nI 0)), (3, .int (nI 8)), (2, .ref rV), (1, .int (nI (sm rgf 0))), (0, .ref rg)] := Eq.mp (congrArg (fun z9 => lv_has ls 6 [(4, .int (nI 0)), (3, .int (nI 8)), (2, .ref rV), (1, .int z9), (0, .ref rg)]) (congrArg nI (show 0 = sm rgf 0 from rfl))) hl
  exact cut_13 ((8 - 0) + 1) 0 (by omega) (Nat.lt_succ_self _) ls (lv_sub hl [4, 3, 2, 1, 0] rfl)
abbrev rm_c_X5_mixed : Room := { frames := 0, cells := 0, slots := 0, locals := 0 }
abbrev q_c_X5_mixed (D : va_G) (c0 : Int64) (n : Nat) : Array Value → State → Outcome → State → Prop := vp_Sl (fun r => r = mx c0 n)
set_option maxHeartbeats 4000000 in
set_option maxRecDepth 100000 in
theorem c_X5_mixed (l : Launch) (D : va_G) (c0 : Int64) (n : Nat) (hn : n < 2147483648) : Met l yX5_mixed wsX5_mixed rm_c_X5_mixed (va_Pc [.long c0, .int (nI n)] (fun _ => True)) (q_c_X5_mixed D c0 n) 0 0 (fun _ => False) := by
  refine Met.ofW (cc := cX5_mixed) (maxL := 3) (ret := (some .long)) (by decide) rfl ?_
  intro p e s m args below meth c s₁ B hml hv
  obtain ⟨hargs, -⟩ := hv
  have hx := B.exec
  have hb := B.bytes
  have hr := B.returns
  have hts := atoms_spec (ws := wsX5_mixed) B.pre
  have hown : s.vm.findClass RX5 = some m.cls := findClass_of_methodNamed B.named
  have hlocks := B.notSynchronized
  have hl := lv_entry ([.long c0, .int (nI n)]) (n := 3) (Nat.le_of_ble_eq_true rfl)
  refine W.eq (g2 := F0 m 0 (lg_sl ([.long c0, .int (nI n)]) ++ List.replicate (3 - (lg_sl ([.long c0, .int (nI n)])).length) Slot.unset).toArray []) (by rw [hargs]; exact lg_entry_eq _ _ _) ?_
  generalize (lg_sl ([.long c0, .int (nI n)]) ++ List.replicate (3 - (lg_sl ([.long c0, .int (nI n)])).length) Slot.unset).toArray = ls at hl ⊢
  have hl : lv_has ls 3 [(0, .long c0), (2, .int (nI n))] := hl
  refine lv_ldc2 (v := 31) hx hb hown (hts (.constantLong RX5 242 (31)) (by decide +kernel)) dX5_mixed_0 ?_
  refine lv_lload_n hx hb dX5_mixed_3 rfl (lv_at hl 0 rfl) ?_
  refine lv_lmul hx hb dX5_mixed_4 ?_
  refine lv_iload_n hx hb dX5_mixed_5 rfl (lv_at hl 1 rfl) ?_
  refine lv_i2l (v := lN n) hx hb dX5_mixed_6 (z_i2l (by omega)) ?_
  refine lv_ladd hx hb dX5_mixed_7 ?_
  exact W.lret hx hb hr (fun t ht _ => ⟨_, rfl, (rfl), ht⟩) (fun _ h => nomatch h) dX5_mixed_8
abbrev rm_c_X4_numbersMixedInto : Room := { frames := 1, cells := 0, slots := 0, locals := 22 }
abbrev q_c_X4_numbersMixedInto (D : va_G) (rg : Nat) (rV : Nat) (rC : Nat) (rB : Nat) (cV : ClassId) (cC : ClassId) (cB : ClassId) (rgf : Nat → Nat) (chf : Nat → Nat) (vbf : Nat → Nat) (chg : Nat) (kp : Nat) (c0 : Int64) : Array Value → State → Outcome → State → Prop := vp_Sl (fun r => r = mxr rgf c0 8)
set_option maxHeartbeats 4000000 in
set_option maxRecDepth 100000 in
theorem c_X4_numbersMixedInto (l : Launch) (D : va_G) (rg : Nat) (rV : Nat) (rC : Nat) (rB : Nat) (cV : ClassId) (cC : ClassId) (cB : ClassId) (rgf : Nat → Nat) (chf : Nat → Nat) (vbf : Nat → Nat) (chg : Nat) (kp : Nat) (c0 : Int64) (hrg : ∀ k, k < 8 → rgf k < 256) : Met l yX4_numbersMixedInto wsX4_numbersMixedInto rm_c_X4_numbersMixedInto (va_Pc [.ref rg, .long c0] (fun U => va_P D vwCl [(rg, .inr (6, [.ref rV, .ref rC, .ref rB, .int (nI chg), .int (nI kp)])), (rV, .inl (cV, 8, .inl (aN rgf))), (rC, .inl (cC, 8, .inl (aN chf))), (rB, .inl (cB, 8, .inl (aN vbf)))] U.heap ∧ va_K D vwCl [(cV, .int), (cC, .int), (cB, .int)] U ∧ va_Nw (.methodLinkNest RX4 56 yX5_mixed "Gamefield") U)) (q_c_X4_numbersMixedInto D rg rV rC rB cV cC cB rgf chf vbf chg kp c0) 0 0 (fun _ => False) := by
  refine Met.ofW (cc := cX4_numbersMixedInto) (maxL := 9) (ret := (some .long)) (by decide) rfl ?_
  intro p e s m args below meth c s₁ B hml hv
  obtain ⟨hargs, hP, hK, hx0⟩ := hv
  have hx := B.exec
  have hb := B.bytes
  have hr := B.returns
  have hts := atoms_spec (ws := wsX4_numbersMixedInto) B.pre
  have hown : s.vm.findClass RX4 = some m.cls := findClass_of_methodNamed B.named
  have hlocks := B.notSynchronized
  have hl := lv_entry ([.ref rg, .long c0]) (n := 9) (Nat.le_of_ble_eq_true rfl)
  refine W.eq (g2 := F0 m 0 (lg_sl ([.ref rg, .long c0]) ++ List.replicate (9 - (lg_sl ([.ref rg, .long c0])).length) Slot.unset).toArray []) (by rw [hargs]; exact lg_entry_eq _ _ _) ?_
  generalize (lg_sl ([.ref rg, .long c0]) ++ List.replicate (9 - (lg_sl ([.ref rg, .long c0])).length) Slot.unset).toArray = ls at hl ⊢
  have hl : lv_has ls 9 [(0, .ref rg), (1, .long c0)] := hl
  refine lv_lload_n hx hb dX4_numbersMixedInto_0 rfl (lv_at hl 1 rfl) ?_
  refine lv_lstore_n (lv' := [(3, .long c0), (0, .ref rg), (1, .long c0)]) hx hb dX4_numbersMixedInto_1 rfl hl (by decide) rfl (fun ls hl => ?_)
  refine lv_aload_n hx hb dX4_numbersMixedInto_2 rfl (lv_at hl 1 rfl) ?_
  refine va_get (D := D) (ci := 6) (v := .ref rV) (C := RX4) (T := TX4) (N := 5) hx hb hts nX4_numbersMixedInto_inX4 hown hK hP 0 rfl rfl 0 (by decide) (hts (.fieldLink RX4 11 "Gamefield$Registers" "values" "[I") (by decide +kernel)) (fun _ h9 => h9) rfl dX4_numbersMixedInto_3 ?_
  refine lv_astore (lv' := [(5, .ref rV), (3, .long c0), (0, .ref rg), (1, .long c0)]) hx hb dX4_numbersMixedInto_6 hl (by decide) rfl (fun ls hl => ?_)
  refine lv_aload hx hb dX4_numbersMixedInto_8 (lv_at hl 0 rfl) ?_
  refine va_alen (v := nI 8) hx hb hK hP 1 0 rfl rfl rfl dX4_numbersMixedInto_10 ?_
  refine lv_istore (lv' := [(6, .int (nI 8)), (5, .ref rV), (3, .long c0), (0, .ref rg), (1, .long c0)]) hx hb dX4_numbersMixedInto_11 hl (by decide) rfl (fun ls hl => ?_)
  refine lv_iconst (v := nI 0) hx hb dX4_numbersMixedInto_13 zki_0 ?_
  refine lv_istore (lv' := [(7, .int (nI 0)), (6, .int (nI 8)), (5, .ref rV), (3, .long c0), (0, .ref rg), (1, .long c0)]) hx hb dX4_numbersMixedInto_14 hl (by decide) rfl (fun ls hl => ?_)
  have cut_16 : ∀ (nn9 : Nat) (i : Nat) (hi : i ≤ 8) (hn9 : 8 - i < nn9) (ls : Array Slot) (hl : lv_has ls 9 [(0, .ref rg), (1, .long c0), (3, .long (mxr rgf c0 i)), (5, .ref rV), (6, .int (nI 8)), (7, .int (nI i))]), W p l e (headSpec wsX4_numbersMixedInto rm_c_X4_numbersMixedInto).room s m args below meth c s.heap [] 0 0 (MQ below (q_c_X4_numbersMixedInto D rg rV rC rB cV cC cB rgf chf vbf chg kp c0) args s 0 0 (fun _ => False)) (F0 m 16 ls []) := by
    intro nn9
    induction nn9 with
    | zero => intro i hi hn9; exact absurd hn9 (Nat.not_lt_zero _)
    | succ nn9 ih_16 =>
      intro i hi hn9 ls hl
      refine lv_iload hx hb dX4_numbersMixedInto_16 (lv_at hl 5 rfl) ?_
      refine lv_iload hx hb dX4_numbersMixedInto_18 (lv_at hl 4 rfl) ?_
      refine z_cge (tgt := 43) hx hb (by omega) (by omega) dX4_numbersMixedInto_20 (by decide) (fun c_20 => ?_) (fun c_20 => ?_)
      · refine lv_lload_n hx hb dX4_numbersMixedInto_43 rfl (lv_at hl 2 rfl) ?_
        exact W.lret hx hb hr (fun t ht _ => ⟨_, rfl, (by rw [show i = 8 by omega]), ht⟩) (fun _ h => nomatch h) dX4_numbersMixedInto_44
      · have hri := hrg i (by omega)
        refine lv_aload hx hb dX4_numbersMixedInto_23 (lv_at hl 3 rfl) ?_
        refine lv_iload hx hb dX4_numbersMixedInto_25 (lv_at hl 5 rfl) ?_
        refine z_iald hx hb hK hP 1 0 rfl rfl (by omega) (by decide) dX4_numbersMixedInto_27 ?_
        refine lv_istore (lv' := [(8, .int (nI (rgf i))), (0, .ref rg), (1, .long c0), (3, .long (mxr rgf c0 i)), (5, .ref rV), (6, .int (nI 8)), (7, .int (nI i))]) hx hb dX4_numbersMixedInto_28 hl (by decide) rfl (fun ls hl => ?_)
        refine lv_lload_n hx hb dX4_numbersMixedInto_30 rfl (lv_at hl 3 rfl) ?_
        refine lv_iload hx hb dX4_numbersMixedInto_31 (lv_at hl 0 rfl) ?_
        refine z_cl (va_runSN (As := [.long (mxr rgf c0 i), .int (nI (rgf i))]) (rest := []) ⟨hx, hb, hml, hown, hts⟩ (c_X5_mixed l D (mxr rgf c0 i) (rgf i) (by omega)) ⟨va_cnB (host := "Gamefield") 2 hts gX4_numbersMixedInto_X5_mixed_n56 rfl rfl rfl hx0 (hts (.initialized RX5) (by decide +kernel)) (by decide +kernel) ⟨Nat.le_of_ble_eq_true rfl, Nat.le_of_ble_eq_true rfl⟩, hts (.static yX5_mixed) (by decide +kernel), trivial⟩ ⟨z_fb0, fun U hU hW => ⟨rfl, trivial⟩⟩ rfl rfl hl.1 rfl (lv_room (Nat.le_of_ble_eq_true rfl)) dX4_numbersMixedInto_33 ⟨Nat.le_of_ble_eq_true rfl, Nat.le_of_ble_eq_true rfl⟩) (fun r33 e33 => ?_)
        subst e33
        refine lv_lstore_n (lv' := [(3, .long (mx (mxr rgf c0 i) (rgf i))), (8, .int (nI (rgf i))), (0, .ref rg), (1, .long c0), (5, .ref rV), (6, .int (nI 8)), (7, .int (nI i))]) hx hb dX4_numbersMixedInto_36 rfl hl (by decide) rfl (fun ls hl => ?_)
        refine lv_iinc (v := (nI (i + 1))) (lv' := [(7, .int (nI (i + 1))), (3, .long (mx (mxr rgf c0 i) (rgf i))), (8, .int (nI (rgf i))), (0, .ref rg), (1, .long c0), (5, .ref rV), (6, .int (nI 8))]) hx hb dX4_numbersMixedInto_37 hl (k := 6) rfl (z_inc i 1) (by decide) rfl (fun ls hl => ?_)
        refine lv_goto (tgt := 16) hx hb dX4_numbersMixedInto_40 (by decide) ?_
        have hl : lv_has ls 9 [(7, .int (nI (i + 1))), (3, .long (mxr rgf c0 (i + 1))), (8, .int (nI (rgf i))), (0, .ref rg), (1, .long c0), (5, .ref rV), (6, .int (nI 8))] := Eq.mp (congrArg (fun z9 => lv_has ls 9 [(7, .int (nI (i + 1))), (3, .long z9), (8, .int (nI (rgf i))), (0, .ref rg), (1, .long c0), (5, .ref rV), (6, .int (nI 8))]) ((show mx (mxr rgf c0 i) (rgf i) = mxr rgf c0 (i + 1) from rfl))) hl
        exact ih_16 (i + 1) (by omega) (by omega) ls (lv_sub hl [3, 4, 1, 5, 6, 0] rfl)
  have hl : lv_has ls 9 [(7, .int (nI 0)), (6, .int (nI 8)), (5, .ref rV), (3, .long (mxr rgf c0 0)), (0, .ref rg), (1, .long c0)] := Eq.mp (congrArg (fun z9 => lv_has ls 9 [(7, .int (nI 0)), (6, .int (nI 8)), (5, .ref rV), (3, .long z9), (0, .ref rg), (1, .long c0)]) ((show c0 = mxr rgf c0 0 from rfl))) hl
  exact cut_16 ((8 - 0) + 1) 0 (by omega) (Nat.lt_succ_self _) ls (lv_sub hl [4, 5, 3, 2, 1, 0] rfl)
