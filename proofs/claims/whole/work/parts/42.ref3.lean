theorem nX6_power_inX6 : ∀ w ∈ u_ws RX6 TX6 8, w ∈ wsX6_power := by decide +kernel
theorem nX6_quotient_inX6 : ∀ w ∈ u_ws RX6 TX6 8, w ∈ wsX6_quotient := by decide +kernel
theorem nX6_field_inX6 : ∀ w ∈ u_ws RX6 TX6 8, w ∈ wsX6_field := by decide +kernel
theorem nX6_order_inX6 : ∀ w ∈ u_ws RX6 TX6 8, w ∈ wsX6_order := by decide +kernel
theorem nX6_squarings_inX6 : ∀ w ∈ u_ws RX6 TX6 8, w ∈ wsX6_squarings := by decide +kernel
theorem nX6_set_inX6 : ∀ w ∈ u_ws RX6 TX6 8, w ∈ wsX6_set := by decide +kernel
theorem nX6_undo_inX6 : ∀ w ∈ u_ws RX6 TX6 8, w ∈ wsX6_undo := by decide +kernel
theorem nX6_solve_inX6 : ∀ w ∈ u_ws RX6 TX6 8, w ∈ wsX6_solve := by decide +kernel
abbrev rm_c_X6_power_ok : Room := { frames := 5, cells := 0, slots := 0, locals := 140 }
abbrev q_c_X6_power_ok (D : va_G) (sz : Nat) (mo : Nat) (ra : Nat) (ca : Nat) (ha : Nat) (ba : Nat) (wa : Nat) (kp : Nat) (hd : Nat) (kr : ClassId) (kc : ClassId) (kh : ClassId) (th : Nat) (rf : Nat → Nat) (cf : Nat → Nat) (hf : Nat → Nat) (j : Nat) (k : Nat) (n0 : Nat) : Array Value → State → Outcome → State → Prop := va_Qi (fun r (_ : Unit) => r = (nI (pw (rf k) n0))) (fun (_ : Unit) t => va_P D vwCl [(mo, .inr (8, [.int (nI 0), .ref ra, .ref ca, .ref ha, .int (nI (min kp 7 + 1)), .ref ba, .int (nI hd), .ref wa])), (ra, .inl (kr, 8, .inl (aN (va_up rf j (pw (rf k) n0))))), (ca, .inl (kc, 8, .inl (aN (rng cf kp j)))), (ha, .inl (kh, 8, .inl (aN (rng hf kp (rf j)))))] t.heap ∧ va_K D vwCl [(kr, .int), (kc, .int), (kh, .int)] t ∧ va_D (va_A [(mo, .inr (8, [.int (nI th), .ref ra, .ref ca, .ref ha, .int (nI kp), .ref ba, .int (nI hd), .ref wa])), (ra, .inl (kr, 8, .inl (aN rf))), (ca, .inl (kc, 8, .inl (aN cf))), (ha, .inl (kh, 8, .inl (aN hf)))] sz) [(mo, .inr (8, [.int (nI 0), .ref ra, .ref ca, .ref ha, .int (nI (min kp 7 + 1)), .ref ba, .int (nI hd), .ref wa])), (ra, .inl (kr, 8, .inl (aN (va_up rf j (pw (rf k) n0))))), (ca, .inl (kc, 8, .inl (aN (rng cf kp j)))), (ha, .inl (kh, 8, .inl (aN (rng hf kp (rf j)))))]) (va_A [(mo, .inr (8, [.int (nI th), .ref ra, .ref ca, .ref ha, .int (nI kp), .ref ba, .int (nI hd), .ref wa])), (ra, .inl (kr, 8, .inl (aN rf))), (ca, .inl (kc, 8, .inl (aN cf))), (ha, .inl (kh, 8, .inl (aN hf)))] sz)
set_option maxHeartbeats 4000000 in
set_option maxRecDepth 100000 in
theorem c_X6_power_ok (l : Launch) (D : va_G) (sz : Nat) (mo : Nat) (ra : Nat) (ca : Nat) (ha : Nat) (ba : Nat) (wa : Nat) (kp : Nat) (hd : Nat) (kr : ClassId) (kc : ClassId) (kh : ClassId) (th : Nat) (rf : Nat → Nat) (cf : Nat → Nat) (hf : Nat → Nat) (j : Nat) (k : Nat) (n0 : Nat) (hrf : ∀ k, k < 8 → rf k < 256) (hkp : kp ≤ 8) (hj : j < 8) (hk : k < 8) (hn0 : n0 < 2147483648) : Met l yX6_power wsX6_power rm_c_X6_power_ok (va_Pc [.ref mo, .int (nI j), .int (nI k), .int (nI n0)] (fun U => U.heap.size = sz ∧ va_P D vwCl [(mo, .inr (8, [.int (nI th), .ref ra, .ref ca, .ref ha, .int (nI kp), .ref ba, .int (nI hd), .ref wa])), (ra, .inl (kr, 8, .inl (aN rf))), (ca, .inl (kc, 8, .inl (aN cf))), (ha, .inl (kh, 8, .inl (aN hf)))] U.heap ∧ va_K D vwCl [(kr, .int), (kc, .int), (kh, .int)] U ∧ va_D (fun _ => True) [(mo, .inr (8, [.int (nI th), .ref ra, .ref ca, .ref ha, .int (nI kp), .ref ba, .int (nI hd), .ref wa])), (ra, .inl (kr, 8, .inl (aN rf))), (ca, .inl (kc, 8, .inl (aN cf))), (ha, .inl (kh, 8, .inl (aN hf)))])) (q_c_X6_power_ok D sz mo ra ca ha ba wa kp hd kr kc kh th rf cf hf j k n0) 0 0 (va_A [(mo, .inr (8, [.int (nI th), .ref ra, .ref ca, .ref ha, .int (nI kp), .ref ba, .int (nI hd), .ref wa])), (ra, .inl (kr, 8, .inl (aN rf))), (ca, .inl (kc, 8, .inl (aN cf))), (ha, .inl (kh, 8, .inl (aN hf)))] sz) := by
  refine Met.ofW (cc := cX6_power) (maxL := 4) (ret := (some .int)) (by decide) rfl ?_
  intro p e s m args below meth c s₁ B hml hv
  obtain ⟨hargs, hsz, hP, hK, hD0⟩ := hv
  have hx := B.exec
  have hb := B.bytes
  have hr := B.returns
  have hts := atoms_spec (ws := wsX6_power) B.pre
  have hown : s.vm.findClass RX6 = some m.cls := findClass_of_methodNamed B.named
  have hlocks := B.notSynchronized
  subst hsz
  have hD := hD0.self (sz := s.heap.size)
  generalize hAe : va_A [(mo, .inr (8, [.int (nI th), .ref ra, .ref ca, .ref ha, .int (nI kp), .ref ba, .int (nI hd), .ref wa])), (ra, .inl (kr, 8, .inl (aN rf))), (ca, .inl (kc, 8, .inl (aN cf))), (ha, .inl (kh, 8, .inl (aN hf)))] s.heap.size = A at hD ⊢
  have hA : ∀ q : Nat, s.heap.size ≤ q → A q := fun q h => by rw [← hAe]; exact Or.inr h
  have hS : va_S A s.heap s.heap [] := va_S.rf
  have hl := lv_entry ([.ref mo, .int (nI j), .int (nI k), .int (nI n0)]) (n := 4) (Nat.le_of_ble_eq_true rfl)
  refine W.eq (g2 := F0 m 0 (lg_sl ([.ref mo, .int (nI j), .int (nI k), .int (nI n0)]) ++ List.replicate (4 - (lg_sl ([.ref mo, .int (nI j), .int (nI k), .int (nI n0)])).length) Slot.unset).toArray []) (by rw [hargs]; exact lg_entry_eq _ _ _) ?_
  generalize (lg_sl ([.ref mo, .int (nI j), .int (nI k), .int (nI n0)]) ++ List.replicate (4 - (lg_sl ([.ref mo, .int (nI j), .int (nI k), .int (nI n0)])).length) Slot.unset).toArray = ls at hl ⊢
  have hl : lv_has ls 4 [(0, .ref mo), (1, .int (nI j)), (2, .int (nI k)), (3, .int (nI n0))] := hl
  refine lv_aload_n hx hb dX6_power_0 rfl (lv_at hl 0 rfl) ?_
  refine lv_iload_n hx hb dX6_power_1 rfl (lv_at hl 1 rfl) ?_
  refine lv_iload_n hx hb dX6_power_2 rfl (lv_at hl 2 rfl) ?_
  refine lv_iconst (v := nI 0) hx hb dX6_power_3 zki_0 ?_
  have hPc := hP.sub (ws' := [(mo, .inr (8, [.int (nI th), .ref ra, .ref ca, .ref ha, .int (nI kp), .ref ba, .int (nI hd), .ref wa]))]) [0] rfl
  have hDc := hD.sub (ws' := [(mo, .inr (8, [.int (nI th), .ref ra, .ref ca, .ref ha, .int (nI kp), .ref ba, .int (nI hd), .ref wa]))]) [0] (by decide) rfl
  have hKc := hK.sub (tys' := []) [] rfl
  have hFc := va_free (wc := [(mo, .inr (8, [.int (nI th), .ref ra, .ref ca, .ref ha, .int (nI kp), .ref ba, .int (nI hd), .ref wa]))]) hD hS hA [0] rfl
  refine va_calli (va_runV (As := [.int (nI j), .int (nI k), .int (nI 0)]) (rest := []) ⟨hx, hb, hml, hown, hts⟩ (c_X6_areNone_ok l D s.heap.size mo ra ca ha ba wa kp hd th j k 0 (by omega) (by omega) (by omega)) (cwV 3 hts gX6_power_X6_areNone rfl rfl rfl (by decide +kernel) ⟨Nat.le_of_ble_eq_true rfl, Nat.le_of_ble_eq_true rfl⟩) ⟨(z_fb2), va_recv hK hP (ci := 8) (q0 := 0) rfl rfl, fun U hU hW => ⟨rfl, by rw [hU], by rw [hU]; exact hPc, va_K.moved hW.alike hKc, hDc.weaken (fun _ _ _ _ => trivial)⟩⟩ rfl rfl hl.1 rfl (lv_room (Nat.le_of_ble_eq_true rfl)) dX6_power_4 ⟨Nat.le_of_ble_eq_true rfl, Nat.le_of_ble_eq_true rfl⟩) hS (fun q _ h => hFc q h) hFc (fun r4 u4 t H locs ht hvm e4 hB hz1 hk1 hS => ?_)
  obtain ⟨hP1, hK1, hD1⟩ := hB
  rw [ht] at hP1
  obtain ⟨hP, hD⟩ := va_join (wr := [(ra, .inl (kr, 8, .inl (aN rf))), (ca, .inl (kc, 8, .inl (aN cf))), (ha, .inl (kh, 8, .inl (aN hf)))]) (w1 := [(mo, .inr (8, [.int (nI 0), .ref ra, .ref ca, .ref ha, .int (nI kp), .ref ba, .int (nI hd), .ref wa]))]) hP hD [0] [1, 2, 3] rfl rfl (by decide) (by decide) hk1 hFc hP1 hD1
  have hP : va_P D vwCl [(ra, .inl (kr, 8, .inl (aN rf))), (ca, .inl (kc, 8, .inl (aN cf))), (ha, .inl (kh, 8, .inl (aN hf))), (mo, .inr (8, [.int (nI 0), .ref ra, .ref ca, .ref ha, .int (nI kp), .ref ba, .int (nI hd), .ref wa]))] H := hP
  have hD : va_D A [(ra, .inl (kr, 8, .inl (aN rf))), (ca, .inl (kc, 8, .inl (aN cf))), (ha, .inl (kh, 8, .inl (aN hf))), (mo, .inr (8, [.int (nI 0), .ref ra, .ref ca, .ref ha, .int (nI kp), .ref ba, .int (nI hd), .ref wa]))] := hD
  refine W.widen (k := 0) (n := 0) (Nat.le_of_ble_eq_true rfl) (Nat.le_of_ble_eq_true rfl) ?_
  subst e4
  have hr_j : rf j < 256 := hrf _ (by omega)
  have hr_k : rf k < 256 := hrf _ (by omega)
  refine z_bne (tgt := 27) hx hb dX6_power_7 (by decide) (fun c_7 => absurd c_7 (by decide)) (fun c_7 => ?_)
  refine lv_aload_n hx hb dX6_power_10 rfl (lv_at hl 0 rfl) ?_
  refine lv_iload_n hx hb dX6_power_11 rfl (lv_at hl 3 rfl) ?_
  refine z_fge (tgt := 19) hx hb (by omega) dX6_power_12 (by decide) ?_
  refine lv_iconst (v := nI 0) hx hb dX6_power_19 zki_0 ?_
  refine lv_iconst (v := nI 2) hx hb dX6_power_20 zki_2 ?_
  have hPc := hP.sub (ws' := [(mo, .inr (8, [.int (nI 0), .ref ra, .ref ca, .ref ha, .int (nI kp), .ref ba, .int (nI hd), .ref wa]))]) [3] rfl
  have hDc := hD.sub (ws' := [(mo, .inr (8, [.int (nI 0), .ref ra, .ref ca, .ref ha, .int (nI kp), .ref ba, .int (nI hd), .ref wa]))]) [3] (by decide) rfl
  have hKc := hK.sub (tys' := []) [] rfl
  have hFc := va_free (wc := [(mo, .inr (8, [.int (nI 0), .ref ra, .ref ca, .ref ha, .int (nI kp), .ref ba, .int (nI hd), .ref wa]))]) hD hS hA [3] rfl
  refine va_calli (va_runV (As := [.int (nI 0), .int (nI 2)]) (rest := []) ⟨hx, hb, hml, hown, hts⟩ (c_X6_fails_false l D H.size mo ra ca ha ba wa kp hd 2 (by omega) (by omega)) (cwV 2 hts gX6_power_X6_fails rfl rfl rfl (by decide +kernel) ⟨Nat.le_of_ble_eq_true rfl, Nat.le_of_ble_eq_true rfl⟩) ⟨(z_fb2), va_recv hK hP (ci := 8) (q0 := 3) rfl rfl, fun U hU hW => ⟨rfl, by rw [hU], by rw [hU]; exact hPc, va_K.moved hW.alike hKc, hDc.weaken (fun _ _ _ _ => trivial)⟩⟩ rfl rfl hl.1 rfl (lv_room (Nat.le_of_ble_eq_true rfl)) dX6_power_21 ⟨Nat.le_of_ble_eq_true rfl, Nat.le_of_ble_eq_true rfl⟩) hS (fun q _ h => hFc q h) hFc (fun r21 u21 t H locs ht hvm e21 hB hz1 hk1 hS => ?_)
  obtain ⟨hP1, hK1, hD1⟩ := hB
  rw [ht] at hP1
  obtain ⟨hP, hD⟩ := va_join (wr := [(ra, .inl (kr, 8, .inl (aN rf))), (ca, .inl (kc, 8, .inl (aN cf))), (ha, .inl (kh, 8, .inl (aN hf)))]) (w1 := [(mo, .inr (8, [.int (nI 0), .ref ra, .ref ca, .ref ha, .int (nI kp), .ref ba, .int (nI hd), .ref wa]))]) hP hD [3] [0, 1, 2] rfl rfl (by decide) (by decide) hk1 hFc hP1 hD1
  have hP : va_P D vwCl [(ra, .inl (kr, 8, .inl (aN rf))), (ca, .inl (kc, 8, .inl (aN cf))), (ha, .inl (kh, 8, .inl (aN hf))), (mo, .inr (8, [.int (nI 0), .ref ra, .ref ca, .ref ha, .int (nI kp), .ref ba, .int (nI hd), .ref wa]))] H := hP
  have hD : va_D A [(ra, .inl (kr, 8, .inl (aN rf))), (ca, .inl (kc, 8, .inl (aN cf))), (ha, .inl (kh, 8, .inl (aN hf))), (mo, .inr (8, [.int (nI 0), .ref ra, .ref ca, .ref ha, .int (nI kp), .ref ba, .int (nI hd), .ref wa]))] := hD
  refine W.widen (k := 0) (n := 0) (Nat.le_of_ble_eq_true rfl) (Nat.le_of_ble_eq_true rfl) ?_
  subst e21
  refine z_beq (tgt := 29) hx hb dX6_power_24 (by decide) (fun c_24 => ?_) (fun c_24 => absurd c_24 (by decide))
  refine lv_aload_n hx hb dX6_power_29 rfl (lv_at hl 0 rfl) ?_
  refine lv_iload_n hx hb dX6_power_30 rfl (lv_at hl 1 rfl) ?_
  refine lv_aload_n hx hb dX6_power_31 rfl (lv_at hl 0 rfl) ?_
  refine va_get (D := D) (ci := 8) (v := .ref ra) (C := RX6) (T := TX6) (N := 8) hx hb hts nX6_power_inX6 hown hK hP 3 rfl rfl 1 (by decide) (hts (.fieldLink RX6 9 "GamefieldModel" "registers" "[I") (by decide +kernel)) (fun _ h9 => h9) rfl dX6_power_32 ?_
  refine lv_iload_n hx hb dX6_power_35 rfl (lv_at hl 2 rfl) ?_
  refine z_iald hx hb hK hP 0 0 rfl rfl (by omega) (by decide) dX6_power_36 ?_
  refine lv_iload_n hx hb dX6_power_37 rfl (lv_at hl 3 rfl) ?_
  refine z_ci (va_runS (As := [.int (nI (rf k)), .int (nI n0)]) (rest := [.int (nI j), .ref mo]) ⟨hx, hb, hml, hown, hts⟩ (c_X6_powerOf l D (rf k) n0 (by omega) (by omega)) (va_cwS 2 hts gX6_power_X6_powerOf rfl rfl rfl (by decide +kernel) ⟨Nat.le_of_ble_eq_true rfl, Nat.le_of_ble_eq_true rfl⟩) ⟨z_fb0, fun U hU hW => ⟨rfl, trivial⟩⟩ rfl rfl hl.1 rfl (lv_room (Nat.le_of_ble_eq_true rfl)) dX6_power_38 ⟨Nat.le_of_ble_eq_true rfl, Nat.le_of_ble_eq_true rfl⟩) (fun r38 e38 => ?_)
  subst e38
  have hn38 : pw (rf k) n0 < 256 := pw_lt (by omega)
  have hPc := hP.sub (ws' := [(mo, .inr (8, [.int (nI 0), .ref ra, .ref ca, .ref ha, .int (nI kp), .ref ba, .int (nI hd), .ref wa])), (ra, .inl (kr, 8, .inl (aN rf))), (ca, .inl (kc, 8, .inl (aN cf))), (ha, .inl (kh, 8, .inl (aN hf)))]) [3, 0, 1, 2] rfl
  have hDc := hD.sub (ws' := [(mo, .inr (8, [.int (nI 0), .ref ra, .ref ca, .ref ha, .int (nI kp), .ref ba, .int (nI hd), .ref wa])), (ra, .inl (kr, 8, .inl (aN rf))), (ca, .inl (kc, 8, .inl (aN cf))), (ha, .inl (kh, 8, .inl (aN hf)))]) [3, 0, 1, 2] (by decide) rfl
  have hKc := hK.sub (tys' := [(kr, .int), (kc, .int), (kh, .int)]) [0, 1, 2] rfl
  have hFc := va_free (wc := [(mo, .inr (8, [.int (nI 0), .ref ra, .ref ca, .ref ha, .int (nI kp), .ref ba, .int (nI hd), .ref wa])), (ra, .inl (kr, 8, .inl (aN rf))), (ca, .inl (kc, 8, .inl (aN cf))), (ha, .inl (kh, 8, .inl (aN hf)))]) hD hS hA [3, 0, 1, 2] rfl
  refine va_calli (va_runV (As := [.int (nI j), .int (nI (pw (rf k) n0))]) (rest := []) ⟨hx, hb, hml, hown, hts⟩ (c_X6_becomes l D H.size mo ra ca ha ba wa kp hd kr kc kh 0 rf cf hf j (pw (rf k) n0) (by omega) (by omega) (by omega) (by omega)) (cwV 2 hts gX6_power_X6_becomes rfl rfl rfl (by decide +kernel) ⟨Nat.le_of_ble_eq_true rfl, Nat.le_of_ble_eq_true rfl⟩) ⟨(z_fb2), va_recv hK hP (ci := 8) (q0 := 3) rfl rfl, fun U hU hW => ⟨rfl, by rw [hU], by rw [hU]; exact hPc, va_K.moved hW.alike hKc, hDc.weaken (fun _ _ _ _ => trivial)⟩⟩ rfl rfl hl.1 rfl (lv_room (Nat.le_of_ble_eq_true rfl)) dX6_power_41 ⟨Nat.le_of_ble_eq_true rfl, Nat.le_of_ble_eq_true rfl⟩) hS (fun q _ h => hFc q h) hFc (fun r41 u41 t H locs ht hvm e41 hB hz1 hk1 hS => ?_)
  obtain ⟨hP1, hK1, hD1⟩ := hB
  rw [ht] at hP1
  obtain ⟨hP, hD⟩ := va_join (wr := []) (w1 := [(mo, .inr (8, [.int (nI 0), .ref ra, .ref ca, .ref ha, .int (nI (min kp 7 + 1)), .ref ba, .int (nI hd), .ref wa])), (ra, .inl (kr, 8, .inl (aN (va_up rf j (pw (rf k) n0))))), (ca, .inl (kc, 8, .inl (aN (rng cf kp j)))), (ha, .inl (kh, 8, .inl (aN (rng hf kp (rf j)))))]) hP hD [3, 0, 1, 2] [] rfl rfl (by decide) (by decide) hk1 hFc hP1 hD1
  have hP : va_P D vwCl [(mo, .inr (8, [.int (nI 0), .ref ra, .ref ca, .ref ha, .int (nI (min kp 7 + 1)), .ref ba, .int (nI hd), .ref wa])), (ra, .inl (kr, 8, .inl (aN (va_up rf j (pw (rf k) n0))))), (ca, .inl (kc, 8, .inl (aN (rng cf kp j)))), (ha, .inl (kh, 8, .inl (aN (rng hf kp (rf j)))))] H := hP
  have hD : va_D A [(mo, .inr (8, [.int (nI 0), .ref ra, .ref ca, .ref ha, .int (nI (min kp 7 + 1)), .ref ba, .int (nI hd), .ref wa])), (ra, .inl (kr, 8, .inl (aN (va_up rf j (pw (rf k) n0))))), (ca, .inl (kc, 8, .inl (aN (rng cf kp j)))), (ha, .inl (kh, 8, .inl (aN (rng hf kp (rf j)))))] := hD
  refine W.widen (k := 0) (n := 0) (Nat.le_of_ble_eq_true rfl) (Nat.le_of_ble_eq_true rfl) ?_
  subst e41
  have hP9 := hP.sub (ws' := [(mo, .inr (8, [.int (nI 0), .ref ra, .ref ca, .ref ha, .int (nI (min kp 7 + 1)), .ref ba, .int (nI hd), .ref wa])), (ra, .inl (kr, 8, .inl (aN (va_up rf j (pw (rf k) n0))))), (ca, .inl (kc, 8, .inl (aN (rng cf kp j)))), (ha, .inl (kh, 8, .inl (aN (rng hf kp (rf j)))))]) [0, 1, 2, 3] rfl
  have hD9 := hD.sub (ws' := [(mo, .inr (8, [.int (nI 0), .ref ra, .ref ca, .ref ha, .int (nI (min kp 7 + 1)), .ref ba, .int (nI hd), .ref wa])), (ra, .inl (kr, 8, .inl (aN (va_up rf j (pw (rf k) n0))))), (ca, .inl (kc, 8, .inl (aN (rng cf kp j)))), (ha, .inl (kh, 8, .inl (aN (rng hf kp (rf j)))))]) [0, 1, 2, 3] (by decide) rfl
  have hK9 := hK.sub (tys' := [(kr, .int), (kc, .int), (kh, .int)]) [0, 1, 2] rfl
  subst hAe
  refine W.widen (k := 0) (n := 0) (Nat.le_of_ble_eq_true rfl) (Nat.le_of_ble_eq_true rfl) ?_
  exact W.iret hx hb hr (fun t ht hW => ⟨⟨_, (), rfl, (rfl), by rw [ht]; exact hP9, va_K.moved hW.alike hK9, hD9⟩, hS.F ht⟩) hS.2.2 dX6_power_44
abbrev rm_c_X6_power_no : Room := { frames := 2, cells := 0, slots := 0, locals := 45 }
abbrev q_c_X6_power_no (D : va_G) (sz : Nat) (mo : Nat) (ra : Nat) (ca : Nat) (ha : Nat) (ba : Nat) (wa : Nat) (kp : Nat) (hd : Nat) (kr : ClassId) (kc : ClassId) (kh : ClassId) (th : Nat) (rf : Nat → Nat) (cf : Nat → Nat) (hf : Nat → Nat) (x0 : Int32) (x1 : Int32) (y : Int32) : Array Value → State → Outcome → State → Prop := va_Qi (fun r (_ : Unit) => r = (nI 0)) (fun (_ : Unit) t => va_P D vwCl [(mo, .inr (8, [.int (nI 1), .ref ra, .ref ca, .ref ha, .int (nI kp), .ref ba, .int (nI hd), .ref wa])), (ra, .inl (kr, 8, .inl (aN rf))), (ca, .inl (kc, 8, .inl (aN cf))), (ha, .inl (kh, 8, .inl (aN hf)))] t.heap ∧ va_K D vwCl [(kr, .int), (kc, .int), (kh, .int)] t ∧ va_D (va_A [(mo, .inr (8, [.int (nI th), .ref ra, .ref ca, .ref ha, .int (nI kp), .ref ba, .int (nI hd), .ref wa])), (ra, .inl (kr, 8, .inl (aN rf))), (ca, .inl (kc, 8, .inl (aN cf))), (ha, .inl (kh, 8, .inl (aN hf)))] sz) [(mo, .inr (8, [.int (nI 1), .ref ra, .ref ca, .ref ha, .int (nI kp), .ref ba, .int (nI hd), .ref wa])), (ra, .inl (kr, 8, .inl (aN rf))), (ca, .inl (kc, 8, .inl (aN cf))), (ha, .inl (kh, 8, .inl (aN hf)))]) (va_A [(mo, .inr (8, [.int (nI th), .ref ra, .ref ca, .ref ha, .int (nI kp), .ref ba, .int (nI hd), .ref wa])), (ra, .inl (kr, 8, .inl (aN rf))), (ca, .inl (kc, 8, .inl (aN cf))), (ha, .inl (kh, 8, .inl (aN hf)))] sz)
set_option maxHeartbeats 4000000 in
set_option maxRecDepth 100000 in
theorem c_X6_power_no (l : Launch) (D : va_G) (sz : Nat) (mo : Nat) (ra : Nat) (ca : Nat) (ha : Nat) (ba : Nat) (wa : Nat) (kp : Nat) (hd : Nat) (kr : ClassId) (kc : ClassId) (kh : ClassId) (th : Nat) (rf : Nat → Nat) (cf : Nat → Nat) (hf : Nat → Nat) (x0 : Int32) (x1 : Int32) (y : Int32) (hrf : ∀ k, k < 8 → rf k < 256) (hkp : kp ≤ 8) (hno : (inN 8 x0 && inN 8 x1) = false) : Met l yX6_power wsX6_power rm_c_X6_power_no (va_Pc [.ref mo, .int x0, .int x1, .int y] (fun U => U.heap.size = sz ∧ va_P D vwCl [(mo, .inr (8, [.int (nI th), .ref ra, .ref ca, .ref ha, .int (nI kp), .ref ba, .int (nI hd), .ref wa])), (ra, .inl (kr, 8, .inl (aN rf))), (ca, .inl (kc, 8, .inl (aN cf))), (ha, .inl (kh, 8, .inl (aN hf)))] U.heap ∧ va_K D vwCl [(kr, .int), (kc, .int), (kh, .int)] U ∧ va_D (fun _ => True) [(mo, .inr (8, [.int (nI th), .ref ra, .ref ca, .ref ha, .int (nI kp), .ref ba, .int (nI hd), .ref wa])), (ra, .inl (kr, 8, .inl (aN rf))), (ca, .inl (kc, 8, .inl (aN cf))), (ha, .inl (kh, 8, .inl (aN hf)))])) (q_c_X6_power_no D sz mo ra ca ha ba wa kp hd kr kc kh th rf cf hf x0 x1 y) 0 0 (va_A [(mo, .inr (8, [.int (nI th), .ref ra, .ref ca, .ref ha, .int (nI kp), .ref ba, .int (nI hd), .ref wa])), (ra, .inl (kr, 8, .inl (aN rf))), (ca, .inl (kc, 8, .inl (aN cf))), (ha, .inl (kh, 8, .inl (aN hf)))] sz) := by
  refine Met.ofW (cc := cX6_power) (maxL := 4) (ret := (some .int)) (by decide) rfl ?_
  intro p e s m args below meth c s₁ B hml hv
  obtain ⟨hargs, hsz, hP, hK, hD0⟩ := hv
  have hx := B.exec
  have hb := B.bytes
  have hr := B.returns
  have hts := atoms_spec (ws := wsX6_power) B.pre
  have hown : s.vm.findClass RX6 = some m.cls := findClass_of_methodNamed B.named
  have hlocks := B.notSynchronized
  subst hsz
  have hD := hD0.self (sz := s.heap.size)
  generalize hAe : va_A [(mo, .inr (8, [.int (nI th), .ref ra, .ref ca, .ref ha, .int (nI kp), .ref ba, .int (nI hd), .ref wa])), (ra, .inl (kr, 8, .inl (aN rf))), (ca, .inl (kc, 8, .inl (aN cf))), (ha, .inl (kh, 8, .inl (aN hf)))] s.heap.size = A at hD ⊢
  have hA : ∀ q : Nat, s.heap.size ≤ q → A q := fun q h => by rw [← hAe]; exact Or.inr h
  have hS : va_S A s.heap s.heap [] := va_S.rf
  have hl := lv_entry ([.ref mo, .int x0, .int x1, .int y]) (n := 4) (Nat.le_of_ble_eq_true rfl)
  refine W.eq (g2 := F0 m 0 (lg_sl ([.ref mo, .int x0, .int x1, .int y]) ++ List.replicate (4 - (lg_sl ([.ref mo, .int x0, .int x1, .int y])).length) Slot.unset).toArray []) (by rw [hargs]; exact lg_entry_eq _ _ _) ?_
  generalize (lg_sl ([.ref mo, .int x0, .int x1, .int y]) ++ List.replicate (4 - (lg_sl ([.ref mo, .int x0, .int x1, .int y])).length) Slot.unset).toArray = ls at hl ⊢
  have hl : lv_has ls 4 [(0, .ref mo), (1, .int x0), (2, .int x1), (3, .int y)] := hl
  refine lv_aload_n hx hb dX6_power_0 rfl (lv_at hl 0 rfl) ?_
  refine lv_iload_n hx hb dX6_power_1 rfl (lv_at hl 1 rfl) ?_
  refine lv_iload_n hx hb dX6_power_2 rfl (lv_at hl 2 rfl) ?_
  refine lv_iconst (v := nI 0) hx hb dX6_power_3 zki_0 ?_
  have hPc := hP.sub (ws' := [(mo, .inr (8, [.int (nI th), .ref ra, .ref ca, .ref ha, .int (nI kp), .ref ba, .int (nI hd), .ref wa]))]) [0] rfl
  have hDc := hD.sub (ws' := [(mo, .inr (8, [.int (nI th), .ref ra, .ref ca, .ref ha, .int (nI kp), .ref ba, .int (nI hd), .ref wa]))]) [0] (by decide) rfl
  have hKc := hK.sub (tys' := []) [] rfl
  have hFc := va_free (wc := [(mo, .inr (8, [.int (nI th), .ref ra, .ref ca, .ref ha, .int (nI kp), .ref ba, .int (nI hd), .ref wa]))]) hD hS hA [0] rfl
  refine va_calli (va_runV (As := [.int x0, .int x1, .int (nI 0)]) (rest := []) ⟨hx, hb, hml, hown, hts⟩ (c_X6_areNone_no l D s.heap.size mo ra ca ha ba wa kp hd th x0 x1 (nI 0) (by rw [ok3_2]; exact hno)) (cwV 3 hts gX6_power_X6_areNone rfl rfl rfl (by decide +kernel) ⟨Nat.le_of_ble_eq_true rfl, Nat.le_of_ble_eq_true rfl⟩) ⟨(z_fb2), va_recv hK hP (ci := 8) (q0 := 0) rfl rfl, fun U hU hW => ⟨rfl, by rw [hU], by rw [hU]; exact hPc, va_K.moved hW.alike hKc, hDc.weaken (fun _ _ _ _ => trivial)⟩⟩ rfl rfl hl.1 rfl (lv_room (Nat.le_of_ble_eq_true rfl)) dX6_power_4 ⟨Nat.le_of_ble_eq_true rfl, Nat.le_of_ble_eq_true rfl⟩) hS (fun q _ h => hFc q h) hFc (fun r4 u4 t H locs ht hvm e4 hB hz1 hk1 hS => ?_)
  obtain ⟨hP1, hK1, hD1⟩ := hB
  rw [ht] at hP1
  obtain ⟨hP, hD⟩ := va_join (wr := [(ra, .inl (kr, 8, .inl (aN rf))), (ca, .inl (kc, 8, .inl (aN cf))), (ha, .inl (kh, 8, .inl (aN hf)))]) (w1 := [(mo, .inr (8, [.int (nI 1), .ref ra, .ref ca, .ref ha, .int (nI kp), .ref ba, .int (nI hd), .ref wa]))]) hP hD [0] [1, 2, 3] rfl rfl (by decide) (by decide) hk1 hFc hP1 hD1
  have hP : va_P D vwCl [(ra, .inl (kr, 8, .inl (aN rf))), (ca, .inl (kc, 8, .inl (aN cf))), (ha, .inl (kh, 8, .inl (aN hf))), (mo, .inr (8, [.int (nI 1), .ref ra, .ref ca, .ref ha, .int (nI kp), .ref ba, .int (nI hd), .ref wa]))] H := hP
  have hD : va_D A [(ra, .inl (kr, 8, .inl (aN rf))), (ca, .inl (kc, 8, .inl (aN cf))), (ha, .inl (kh, 8, .inl (aN hf))), (mo, .inr (8, [.int (nI 1), .ref ra, .ref ca, .ref ha, .int (nI kp), .ref ba, .int (nI hd), .ref wa]))] := hD
  refine W.widen (k := 0) (n := 0) (Nat.le_of_ble_eq_true rfl) (Nat.le_of_ble_eq_true rfl) ?_
  subst e4
  refine z_bne (tgt := 27) hx hb dX6_power_7 (by decide) (fun c_7 => ?_) (fun c_7 => absurd c_7 (by decide))
  refine lv_iconst (v := nI 0) hx hb dX6_power_27 zki_0 ?_
  have hP9 := hP.sub (ws' := [(mo, .inr (8, [.int (nI 1), .ref ra, .ref ca, .ref ha, .int (nI kp), .ref ba, .int (nI hd), .ref wa])), (ra, .inl (kr, 8, .inl (aN rf))), (ca, .inl (kc, 8, .inl (aN cf))), (ha, .inl (kh, 8, .inl (aN hf)))]) [3, 0, 1, 2] rfl
  have hD9 := hD.sub (ws' := [(mo, .inr (8, [.int (nI 1), .ref ra, .ref ca, .ref ha, .int (nI kp), .ref ba, .int (nI hd), .ref wa])), (ra, .inl (kr, 8, .inl (aN rf))), (ca, .inl (kc, 8, .inl (aN cf))), (ha, .inl (kh, 8, .inl (aN hf)))]) [3, 0, 1, 2] (by decide) rfl
  have hK9 := hK.sub (tys' := [(kr, .int), (kc, .int), (kh, .int)]) [0, 1, 2] rfl
  subst hAe
  refine W.widen (k := 0) (n := 0) (Nat.le_of_ble_eq_true rfl) (Nat.le_of_ble_eq_true rfl) ?_
  exact W.iret hx hb hr (fun t ht hW => ⟨⟨_, (), rfl, (rfl), by rw [ht]; exact hP9, va_K.moved hW.alike hK9, hD9⟩, hS.F ht⟩) hS.2.2 dX6_power_28
abbrev rm_c_X6_power_bad : Room := { frames := 2, cells := 0, slots := 0, locals := 45 }
abbrev q_c_X6_power_bad (D : va_G) (sz : Nat) (mo : Nat) (ra : Nat) (ca : Nat) (ha : Nat) (ba : Nat) (wa : Nat) (kp : Nat) (hd : Nat) (kr : ClassId) (kc : ClassId) (kh : ClassId) (th : Nat) (rf : Nat → Nat) (cf : Nat → Nat) (hf : Nat → Nat) (j : Nat) (k : Nat) (y : Int32) : Array Value → State → Outcome → State → Prop := va_Qi (fun r (_ : Unit) => r = (nI 0)) (fun (_ : Unit) t => va_P D vwCl [(mo, .inr (8, [.int (nI 2), .ref ra, .ref ca, .ref ha, .int (nI kp), .ref ba, .int (nI hd), .ref wa])), (ra, .inl (kr, 8, .inl (aN rf))), (ca, .inl (kc, 8, .inl (aN cf))), (ha, .inl (kh, 8, .inl (aN hf)))] t.heap ∧ va_K D vwCl [(kr, .int), (kc, .int), (kh, .int)] t ∧ va_D (va_A [(mo, .inr (8, [.int (nI th), .ref ra, .ref ca, .ref ha, .int (nI kp), .ref ba, .int (nI hd), .ref wa])), (ra, .inl (kr, 8, .inl (aN rf))), (ca, .inl (kc, 8, .inl (aN cf))), (ha, .inl (kh, 8, .inl (aN hf)))] sz) [(mo, .inr (8, [.int (nI 2), .ref ra, .ref ca, .ref ha, .int (nI kp), .ref ba, .int (nI hd), .ref wa])), (ra, .inl (kr, 8, .inl (aN rf))), (ca, .inl (kc, 8, .inl (aN cf))), (ha, .inl (kh, 8, .inl (aN hf)))]) (va_A [(mo, .inr (8, [.int (nI th), .ref ra, .ref ca, .ref ha, .int (nI kp), .ref ba, .int (nI hd), .ref wa])), (ra, .inl (kr, 8, .inl (aN rf))), (ca, .inl (kc, 8, .inl (aN cf))), (ha, .inl (kh, 8, .inl (aN hf)))] sz)
set_option maxHeartbeats 4000000 in
set_option maxRecDepth 100000 in
theorem c_X6_power_bad (l : Launch) (D : va_G) (sz : Nat) (mo : Nat) (ra : Nat) (ca : Nat) (ha : Nat) (ba : Nat) (wa : Nat) (kp : Nat) (hd : Nat) (kr : ClassId) (kc : ClassId) (kh : ClassId) (th : Nat) (rf : Nat → Nat) (cf : Nat → Nat) (hf : Nat → Nat) (j : Nat) (k : Nat) (y : Int32) (hrf : ∀ k, k < 8 → rf k < 256) (hkp : kp ≤ 8) (hj : j < 8) (hk : k < 8) (hy : y < 0) : Met l yX6_power wsX6_power rm_c_X6_power_bad (va_Pc [.ref mo, .int (nI j), .int (nI k), .int y] (fun U => U.heap.size = sz ∧ va_P D vwCl [(mo, .inr (8, [.int (nI th), .ref ra, .ref ca, .ref ha, .int (nI kp), .ref ba, .int (nI hd), .ref wa])), (ra, .inl (kr, 8, .inl (aN rf))), (ca, .inl (kc, 8, .inl (aN cf))), (ha, .inl (kh, 8, .inl (aN hf)))] U.heap ∧ va_K D vwCl [(kr, .int), (kc, .int), (kh, .int)] U ∧ va_D (fun _ => True) [(mo, .inr (8, [.int (nI th), .ref ra, .ref ca, .ref ha, .int (nI kp), .ref ba, .int (nI hd), .ref wa])), (ra, .inl (kr, 8, .inl (aN rf))), (ca, .inl (kc, 8, .inl (aN cf))), (ha, .inl (kh, 8, .inl (aN hf)))])) (q_c_X6_power_bad D sz mo ra ca ha ba wa kp hd kr kc kh th rf cf hf j k y) 0 0 (va_A [(mo, .inr (8, [.int (nI th), .ref ra, .ref ca, .ref ha, .int (nI kp), .ref ba, .int (nI hd), .ref wa])), (ra, .inl (kr, 8, .inl (aN rf))), (ca, .inl (kc, 8, .inl (aN cf))), (ha, .inl (kh, 8, .inl (aN hf)))] sz) := by
  refine Met.ofW (cc := cX6_power) (maxL := 4) (ret := (some .int)) (by decide) rfl ?_
  intro p e s m args below meth c s₁ B hml hv
  obtain ⟨hargs, hsz, hP, hK, hD0⟩ := hv
  have hx := B.exec
  have hb := B.bytes
  have hr := B.returns
  have hts := atoms_spec (ws := wsX6_power) B.pre
  have hown : s.vm.findClass RX6 = some m.cls := findClass_of_methodNamed B.named
  have hlocks := B.notSynchronized
  subst hsz
  have hD := hD0.self (sz := s.heap.size)
  generalize hAe : va_A [(mo, .inr (8, [.int (nI th), .ref ra, .ref ca, .ref ha, .int (nI kp), .ref ba, .int (nI hd), .ref wa])), (ra, .inl (kr, 8, .inl (aN rf))), (ca, .inl (kc, 8, .inl (aN cf))), (ha, .inl (kh, 8, .inl (aN hf)))] s.heap.size = A at hD ⊢
  have hA : ∀ q : Nat, s.heap.size ≤ q → A q := fun q h => by rw [← hAe]; exact Or.inr h
  have hS : va_S A s.heap s.heap [] := va_S.rf
  have hl := lv_entry ([.ref mo, .int (nI j), .int (nI k), .int y]) (n := 4) (Nat.le_of_ble_eq_true rfl)
  refine W.eq (g2 := F0 m 0 (lg_sl ([.ref mo, .int (nI j), .int (nI k), .int y]) ++ List.replicate (4 - (lg_sl ([.ref mo, .int (nI j), .int (nI k), .int y])).length) Slot.unset).toArray []) (by rw [hargs]; exact lg_entry_eq _ _ _) ?_
  generalize (lg_sl ([.ref mo, .int (nI j), .int (nI k), .int y]) ++ List.replicate (4 - (lg_sl ([.ref mo, .int (nI j), .int (nI k), .int y])).length) Slot.unset).toArray = ls at hl ⊢
  have hl : lv_has ls 4 [(0, .ref mo), (1, .int (nI j)), (2, .int (nI k)), (3, .int y)] := hl
  refine lv_aload_n hx hb dX6_power_0 rfl (lv_at hl 0 rfl) ?_
  refine lv_iload_n hx hb dX6_power_1 rfl (lv_at hl 1 rfl) ?_
  refine lv_iload_n hx hb dX6_power_2 rfl (lv_at hl 2 rfl) ?_
  refine lv_iconst (v := nI 0) hx hb dX6_power_3 zki_0 ?_
  have hPc := hP.sub (ws' := [(mo, .inr (8, [.int (nI th), .ref ra, .ref ca, .ref ha, .int (nI kp), .ref ba, .int (nI hd), .ref wa]))]) [0] rfl
  have hDc := hD.sub (ws' := [(mo, .inr (8, [.int (nI th), .ref ra, .ref ca, .ref ha, .int (nI kp), .ref ba, .int (nI hd), .ref wa]))]) [0] (by decide) rfl
  have hKc := hK.sub (tys' := []) [] rfl
  have hFc := va_free (wc := [(mo, .inr (8, [.int (nI th), .ref ra, .ref ca, .ref ha, .int (nI kp), .ref ba, .int (nI hd), .ref wa]))]) hD hS hA [0] rfl
  refine va_calli (va_runV (As := [.int (nI j), .int (nI k), .int (nI 0)]) (rest := []) ⟨hx, hb, hml, hown, hts⟩ (c_X6_areNone_ok l D s.heap.size mo ra ca ha ba wa kp hd th j k 0 (by omega) (by omega) (by omega)) (cwV 3 hts gX6_power_X6_areNone rfl rfl rfl (by decide +kernel) ⟨Nat.le_of_ble_eq_true rfl, Nat.le_of_ble_eq_true rfl⟩) ⟨(z_fb2), va_recv hK hP (ci := 8) (q0 := 0) rfl rfl, fun U hU hW => ⟨rfl, by rw [hU], by rw [hU]; exact hPc, va_K.moved hW.alike hKc, hDc.weaken (fun _ _ _ _ => trivial)⟩⟩ rfl rfl hl.1 rfl (lv_room (Nat.le_of_ble_eq_true rfl)) dX6_power_4 ⟨Nat.le_of_ble_eq_true rfl, Nat.le_of_ble_eq_true rfl⟩) hS (fun q _ h => hFc q h) hFc (fun r4 u4 t H locs ht hvm e4 hB hz1 hk1 hS => ?_)
  obtain ⟨hP1, hK1, hD1⟩ := hB
  rw [ht] at hP1
  obtain ⟨hP, hD⟩ := va_join (wr := [(ra, .inl (kr, 8, .inl (aN rf))), (ca, .inl (kc, 8, .inl (aN cf))), (ha, .inl (kh, 8, .inl (aN hf)))]) (w1 := [(mo, .inr (8, [.int (nI 0), .ref ra, .ref ca, .ref ha, .int (nI kp), .ref ba, .int (nI hd), .ref wa]))]) hP hD [0] [1, 2, 3] rfl rfl (by decide) (by decide) hk1 hFc hP1 hD1
  have hP : va_P D vwCl [(ra, .inl (kr, 8, .inl (aN rf))), (ca, .inl (kc, 8, .inl (aN cf))), (ha, .inl (kh, 8, .inl (aN hf))), (mo, .inr (8, [.int (nI 0), .ref ra, .ref ca, .ref ha, .int (nI kp), .ref ba, .int (nI hd), .ref wa]))] H := hP
  have hD : va_D A [(ra, .inl (kr, 8, .inl (aN rf))), (ca, .inl (kc, 8, .inl (aN cf))), (ha, .inl (kh, 8, .inl (aN hf))), (mo, .inr (8, [.int (nI 0), .ref ra, .ref ca, .ref ha, .int (nI kp), .ref ba, .int (nI hd), .ref wa]))] := hD
  refine W.widen (k := 0) (n := 0) (Nat.le_of_ble_eq_true rfl) (Nat.le_of_ble_eq_true rfl) ?_
  subst e4
  refine z_bne (tgt := 27) hx hb dX6_power_7 (by decide) (fun c_7 => absurd c_7 (by decide)) (fun c_7 => ?_)
  refine lv_aload_n hx hb dX6_power_10 rfl (lv_at hl 0 rfl) ?_
  refine lv_iload_n hx hb dX6_power_11 rfl (lv_at hl 3 rfl) ?_
  refine lv_if_ge (tgt := 19) hx hb dX6_power_12 (by decide) (fun c_12 => absurd hy (Int32.not_lt.mpr c_12)) (fun c_12 => ?_)
  refine lv_iconst (v := nI 1) hx hb dX6_power_15 zki_1 ?_
  refine lv_goto (tgt := 20) hx hb dX6_power_16 (by decide) ?_
  refine lv_iconst (v := nI 2) hx hb dX6_power_20 zki_2 ?_
  have hPc := hP.sub (ws' := [(mo, .inr (8, [.int (nI 0), .ref ra, .ref ca, .ref ha, .int (nI kp), .ref ba, .int (nI hd), .ref wa]))]) [3] rfl
  have hDc := hD.sub (ws' := [(mo, .inr (8, [.int (nI 0), .ref ra, .ref ca, .ref ha, .int (nI kp), .ref ba, .int (nI hd), .ref wa]))]) [3] (by decide) rfl
  have hKc := hK.sub (tys' := []) [] rfl
  have hFc := va_free (wc := [(mo, .inr (8, [.int (nI 0), .ref ra, .ref ca, .ref ha, .int (nI kp), .ref ba, .int (nI hd), .ref wa]))]) hD hS hA [3] rfl
  refine va_calli (va_runV (As := [.int (nI 1), .int (nI 2)]) (rest := []) ⟨hx, hb, hml, hown, hts⟩ (c_X6_fails_true l D H.size mo ra ca ha ba wa kp hd 2 (by omega) (by omega)) (cwV 2 hts gX6_power_X6_fails rfl rfl rfl (by decide +kernel) ⟨Nat.le_of_ble_eq_true rfl, Nat.le_of_ble_eq_true rfl⟩) ⟨(z_fb2), va_recv hK hP (ci := 8) (q0 := 3) rfl rfl, fun U hU hW => ⟨rfl, by rw [hU], by rw [hU]; exact hPc, va_K.moved hW.alike hKc, hDc.weaken (fun _ _ _ _ => trivial)⟩⟩ rfl rfl hl.1 rfl (lv_room (Nat.le_of_ble_eq_true rfl)) dX6_power_21 ⟨Nat.le_of_ble_eq_true rfl, Nat.le_of_ble_eq_true rfl⟩) hS (fun q _ h => hFc q h) hFc (fun r21 u21 t H locs ht hvm e21 hB hz1 hk1 hS => ?_)
  obtain ⟨hP1, hK1, hD1⟩ := hB
  rw [ht] at hP1
  obtain ⟨hP, hD⟩ := va_join (wr := [(ra, .inl (kr, 8, .inl (aN rf))), (ca, .inl (kc, 8, .inl (aN cf))), (ha, .inl (kh, 8, .inl (aN hf)))]) (w1 := [(mo, .inr (8, [.int (nI 2), .ref ra, .ref ca, .ref ha, .int (nI kp), .ref ba, .int (nI hd), .ref wa]))]) hP hD [3] [0, 1, 2] rfl rfl (by decide) (by decide) hk1 hFc hP1 hD1
  have hP : va_P D vwCl [(ra, .inl (kr, 8, .inl (aN rf))), (ca, .inl (kc, 8, .inl (aN cf))), (ha, .inl (kh, 8, .inl (aN hf))), (mo, .inr (8, [.int (nI 2), .ref ra, .ref ca, .ref ha, .int (nI kp), .ref ba, .int (nI hd), .ref wa]))] H := hP
  have hD : va_D A [(ra, .inl (kr, 8, .inl (aN rf))), (ca, .inl (kc, 8, .inl (aN cf))), (ha, .inl (kh, 8, .inl (aN hf))), (mo, .inr (8, [.int (nI 2), .ref ra, .ref ca, .ref ha, .int (nI kp), .ref ba, .int (nI hd), .ref wa]))] := hD
  refine W.widen (k := 0) (n := 0) (Nat.le_of_ble_eq_true rfl) (Nat.le_of_ble_eq_true rfl) ?_
  subst e21
  refine z_beq (tgt := 29) hx hb dX6_power_24 (by decide) (fun c_24 => absurd c_24 (by decide)) (fun c_24 => ?_)
  refine lv_iconst (v := nI 0) hx hb dX6_power_27 zki_0 ?_
  have hP9 := hP.sub (ws' := [(mo, .inr (8, [.int (nI 2), .ref ra, .ref ca, .ref ha, .int (nI kp), .ref ba, .int (nI hd), .ref wa])), (ra, .inl (kr, 8, .inl (aN rf))), (ca, .inl (kc, 8, .inl (aN cf))), (ha, .inl (kh, 8, .inl (aN hf)))]) [3, 0, 1, 2] rfl
  have hD9 := hD.sub (ws' := [(mo, .inr (8, [.int (nI 2), .ref ra, .ref ca, .ref ha, .int (nI kp), .ref ba, .int (nI hd), .ref wa])), (ra, .inl (kr, 8, .inl (aN rf))), (ca, .inl (kc, 8, .inl (aN cf))), (ha, .inl (kh, 8, .inl (aN hf)))]) [3, 0, 1, 2] (by decide) rfl
  have hK9 := hK.sub (tys' := [(kr, .int), (kc, .int), (kh, .int)]) [0, 1, 2] rfl
  subst hAe
  refine W.widen (k := 0) (n := 0) (Nat.le_of_ble_eq_true rfl) (Nat.le_of_ble_eq_true rfl) ?_
  exact W.iret hx hb hr (fun t ht hW => ⟨⟨_, (), rfl, (rfl), by rw [ht]; exact hP9, va_K.moved hW.alike hK9, hD9⟩, hS.F ht⟩) hS.2.2 dX6_power_28
abbrev rm_c_X6_quotient_ok : Room := { frames := 5, cells := 0, slots := 0, locals := 138 }
abbrev q_c_X6_quotient_ok (D : va_G) (sz : Nat) (mo : Nat) (ra : Nat) (ca : Nat) (ha : Nat) (ba : Nat) (wa : Nat) (kp : Nat) (hd : Nat) (kr : ClassId) (kc : ClassId) (kh : ClassId) (th : Nat) (rf : Nat → Nat) (cf : Nat → Nat) (hf : Nat → Nat) (j : Nat) (k : Nat) (i : Nat) : Array Value → State → Outcome → State → Prop := va_Qi (fun r (_ : Unit) => r = (nI (qt (rf k) (rf i)))) (fun (_ : Unit) t => va_P D vwCl [(mo, .inr (8, [.int (nI 0), .ref ra, .ref ca, .ref ha, .int (nI (min kp 7 + 1)), .ref ba, .int (nI hd), .ref wa])), (ra, .inl (kr, 8, .inl (aN (va_up rf j (qt (rf k) (rf i)))))), (ca, .inl (kc, 8, .inl (aN (rng cf kp j)))), (ha, .inl (kh, 8, .inl (aN (rng hf kp (rf j)))))] t.heap ∧ va_K D vwCl [(kr, .int), (kc, .int), (kh, .int)] t ∧ va_D (va_A [(mo, .inr (8, [.int (nI th), .ref ra, .ref ca, .ref ha, .int (nI kp), .ref ba, .int (nI hd), .ref wa])), (ra, .inl (kr, 8, .inl (aN rf))), (ca, .inl (kc, 8, .inl (aN cf))), (ha, .inl (kh, 8, .inl (aN hf)))] sz) [(mo, .inr (8, [.int (nI 0), .ref ra, .ref ca, .ref ha, .int (nI (min kp 7 + 1)), .ref ba, .int (nI hd), .ref wa])), (ra, .inl (kr, 8, .inl (aN (va_up rf j (qt (rf k) (rf i)))))), (ca, .inl (kc, 8, .inl (aN (rng cf kp j)))), (ha, .inl (kh, 8, .inl (aN (rng hf kp (rf j)))))]) (va_A [(mo, .inr (8, [.int (nI th), .ref ra, .ref ca, .ref ha, .int (nI kp), .ref ba, .int (nI hd), .ref wa])), (ra, .inl (kr, 8, .inl (aN rf))), (ca, .inl (kc, 8, .inl (aN cf))), (ha, .inl (kh, 8, .inl (aN hf)))] sz)
set_option maxHeartbeats 4000000 in
set_option maxRecDepth 100000 in
theorem c_X6_quotient_ok (l : Launch) (D : va_G) (sz : Nat) (mo : Nat) (ra : Nat) (ca : Nat) (ha : Nat) (ba : Nat) (wa : Nat) (kp : Nat) (hd : Nat) (kr : ClassId) (kc : ClassId) (kh : ClassId) (th : Nat) (rf : Nat → Nat) (cf : Nat → Nat) (hf : Nat → Nat) (j : Nat) (k : Nat) (i : Nat) (hrf : ∀ k, k < 8 → rf k < 256) (hkp : kp ≤ 8) (hj : j < 8) (hk : k < 8) (hi : i < 8) (hz : 0 < rf i) : Met l yX6_quotient wsX6_quotient rm_c_X6_quotient_ok (va_Pc [.ref mo, .int (nI j), .int (nI k), .int (nI i)] (fun U => U.heap.size = sz ∧ va_P D vwCl [(mo, .inr (8, [.int (nI th), .ref ra, .ref ca, .ref ha, .int (nI kp), .ref ba, .int (nI hd), .ref wa])), (ra, .inl (kr, 8, .inl (aN rf))), (ca, .inl (kc, 8, .inl (aN cf))), (ha, .inl (kh, 8, .inl (aN hf)))] U.heap ∧ va_K D vwCl [(kr, .int), (kc, .int), (kh, .int)] U ∧ va_D (fun _ => True) [(mo, .inr (8, [.int (nI th), .ref ra, .ref ca, .ref ha, .int (nI kp), .ref ba, .int (nI hd), .ref wa])), (ra, .inl (kr, 8, .inl (aN rf))), (ca, .inl (kc, 8, .inl (aN cf))), (ha, .inl (kh, 8, .inl (aN hf)))])) (q_c_X6_quotient_ok D sz mo ra ca ha ba wa kp hd kr kc kh th rf cf hf j k i) 0 0 (va_A [(mo, .inr (8, [.int (nI th), .ref ra, .ref ca, .ref ha, .int (nI kp), .ref ba, .int (nI hd), .ref wa])), (ra, .inl (kr, 8, .inl (aN rf))), (ca, .inl (kc, 8, .inl (aN cf))), (ha, .inl (kh, 8, .inl (aN hf)))] sz) := by
  refine Met.ofW (cc := cX6_quotient) (maxL := 4) (ret := (some .int)) (by decide) rfl ?_
  intro p e s m args below meth c s₁ B hml hv
  obtain ⟨hargs, hsz, hP, hK, hD0⟩ := hv
  have hx := B.exec
  have hb := B.bytes
  have hr := B.returns
  have hts := atoms_spec (ws := wsX6_quotient) B.pre
  have hown : s.vm.findClass RX6 = some m.cls := findClass_of_methodNamed B.named
  have hlocks := B.notSynchronized
  subst hsz
  have hD := hD0.self (sz := s.heap.size)
  generalize hAe : va_A [(mo, .inr (8, [.int (nI th), .ref ra, .ref ca, .ref ha, .int (nI kp), .ref ba, .int (nI hd), .ref wa])), (ra, .inl (kr, 8, .inl (aN rf))), (ca, .inl (kc, 8, .inl (aN cf))), (ha, .inl (kh, 8, .inl (aN hf)))] s.heap.size = A at hD ⊢
  have hA : ∀ q : Nat, s.heap.size ≤ q → A q := fun q h => by rw [← hAe]; exact Or.inr h
  have hS : va_S A s.heap s.heap [] := va_S.rf
  have hl := lv_entry ([.ref mo, .int (nI j), .int (nI k), .int (nI i)]) (n := 4) (Nat.le_of_ble_eq_true rfl)
  refine W.eq (g2 := F0 m 0 (lg_sl ([.ref mo, .int (nI j), .int (nI k), .int (nI i)]) ++ List.replicate (4 - (lg_sl ([.ref mo, .int (nI j), .int (nI k), .int (nI i)])).length) Slot.unset).toArray []) (by rw [hargs]; exact lg_entry_eq _ _ _) ?_
  generalize (lg_sl ([.ref mo, .int (nI j), .int (nI k), .int (nI i)]) ++ List.replicate (4 - (lg_sl ([.ref mo, .int (nI j), .int (nI k), .int (nI i)])).length) Slot.unset).toArray = ls at hl ⊢
  have hl : lv_has ls 4 [(0, .ref mo), (1, .int (nI j)), (2, .int (nI k)), (3, .int (nI i))] := hl
  refine lv_aload_n hx hb dX6_quotient_0 rfl (lv_at hl 0 rfl) ?_
  refine lv_iload_n hx hb dX6_quotient_1 rfl (lv_at hl 1 rfl) ?_
  refine lv_iload_n hx hb dX6_quotient_2 rfl (lv_at hl 2 rfl) ?_
  refine lv_iload_n hx hb dX6_quotient_3 rfl (lv_at hl 3 rfl) ?_
  have hPc := hP.sub (ws' := [(mo, .inr (8, [.int (nI th), .ref ra, .ref ca, .ref ha, .int (nI kp), .ref ba, .int (nI hd), .ref wa]))]) [0] rfl
  have hDc := hD.sub (ws' := [(mo, .inr (8, [.int (nI th), .ref ra, .ref ca, .ref ha, .int (nI kp), .ref ba, .int (nI hd), .ref wa]))]) [0] (by decide) rfl
  have hKc := hK.sub (tys' := []) [] rfl
  have hFc := va_free (wc := [(mo, .inr (8, [.int (nI th), .ref ra, .ref ca, .ref ha, .int (nI kp), .ref ba, .int (nI hd), .ref wa]))]) hD hS hA [0] rfl
  refine va_calli (va_runV (As := [.int (nI j), .int (nI k), .int (nI i)]) (rest := []) ⟨hx, hb, hml, hown, hts⟩ (c_X6_areNone_ok l D s.heap.size mo ra ca ha ba wa kp hd th j k i (by omega) (by omega) (by omega)) (cwV 3 hts gX6_quotient_X6_areNone rfl rfl rfl (by decide +kernel) ⟨Nat.le_of_ble_eq_true rfl, Nat.le_of_ble_eq_true rfl⟩) ⟨(z_fb2), va_recv hK hP (ci := 8) (q0 := 0) rfl rfl, fun U hU hW => ⟨rfl, by rw [hU], by rw [hU]; exact hPc, va_K.moved hW.alike hKc, hDc.weaken (fun _ _ _ _ => trivial)⟩⟩ rfl rfl hl.1 rfl (lv_room (Nat.le_of_ble_eq_true rfl)) dX6_quotient_4 ⟨Nat.le_of_ble_eq_true rfl, Nat.le_of_ble_eq_true rfl⟩) hS (fun q _ h => hFc q h) hFc (fun r4 u4 t H locs ht hvm e4 hB hz1 hk1 hS => ?_)
  obtain ⟨hP1, hK1, hD1⟩ := hB
  rw [ht] at hP1
  obtain ⟨hP, hD⟩ := va_join (wr := [(ra, .inl (kr, 8, .inl (aN rf))), (ca, .inl (kc, 8, .inl (aN cf))), (ha, .inl (kh, 8, .inl (aN hf)))]) (w1 := [(mo, .inr (8, [.int (nI 0), .ref ra, .ref ca, .ref ha, .int (nI kp), .ref ba, .int (nI hd), .ref wa]))]) hP hD [0] [1, 2, 3] rfl rfl (by decide) (by decide) hk1 hFc hP1 hD1
  have hP : va_P D vwCl [(ra, .inl (kr, 8, .inl (aN rf))), (ca, .inl (kc, 8, .inl (aN cf))), (ha, .inl (kh, 8, .inl (aN hf))), (mo, .inr (8, [.int (nI 0), .ref ra, .ref ca, .ref ha, .int (nI kp), .ref ba, .int (nI hd), .ref wa]))] H := hP
  have hD : va_D A [(ra, .inl (kr, 8, .inl (aN rf))), (ca, .inl (kc, 8, .inl (aN cf))), (ha, .inl (kh, 8, .inl (aN hf))), (mo, .inr (8, [.int (nI 0), .ref ra, .ref ca, .ref ha, .int (nI kp), .ref ba, .int (nI hd), .ref wa]))] := hD
  refine W.widen (k := 0) (n := 0) (Nat.le_of_ble_eq_true rfl) (Nat.le_of_ble_eq_true rfl) ?_
  subst e4
  have hr_j : rf j < 256 := hrf _ (by omega)
  have hr_k : rf k < 256 := hrf _ (by omega)
  have hr_i : rf i < 256 := hrf _ (by omega)
  refine z_bne (tgt := 32) hx hb dX6_quotient_7 (by decide) (fun c_7 => absurd c_7 (by decide)) (fun c_7 => ?_)
  refine lv_aload_n hx hb dX6_quotient_10 rfl (lv_at hl 0 rfl) ?_
  refine lv_aload_n hx hb dX6_quotient_11 rfl (lv_at hl 0 rfl) ?_
  refine va_get (D := D) (ci := 8) (v := .ref ra) (C := RX6) (T := TX6) (N := 8) hx hb hts nX6_quotient_inX6 hown hK hP 3 rfl rfl 1 (by decide) (hts (.fieldLink RX6 9 "GamefieldModel" "registers" "[I") (by decide +kernel)) (fun _ h9 => h9) rfl dX6_quotient_12 ?_
  refine lv_iload_n hx hb dX6_quotient_15 rfl (lv_at hl 3 rfl) ?_
  refine z_iald hx hb hK hP 0 0 rfl rfl (by omega) (by decide) dX6_quotient_16 ?_
  refine z_fne (tgt := 24) hx hb (by omega) dX6_quotient_17 (by decide) (fun c_17 => ?_) (fun c_17 => absurd c_17 (by omega))
  refine lv_iconst (v := nI 0) hx hb dX6_quotient_24 zki_0 ?_
  refine lv_iconst (v := nI 2) hx hb dX6_quotient_25 zki_2 ?_
  have hPc := hP.sub (ws' := [(mo, .inr (8, [.int (nI 0), .ref ra, .ref ca, .ref ha, .int (nI kp), .ref ba, .int (nI hd), .ref wa]))]) [3] rfl
  have hDc := hD.sub (ws' := [(mo, .inr (8, [.int (nI 0), .ref ra, .ref ca, .ref ha, .int (nI kp), .ref ba, .int (nI hd), .ref wa]))]) [3] (by decide) rfl
  have hKc := hK.sub (tys' := []) [] rfl
  have hFc := va_free (wc := [(mo, .inr (8, [.int (nI 0), .ref ra, .ref ca, .ref ha, .int (nI kp), .ref ba, .int (nI hd), .ref wa]))]) hD hS hA [3] rfl
  refine va_calli (va_runV (As := [.int (nI 0), .int (nI 2)]) (rest := []) ⟨hx, hb, hml, hown, hts⟩ (c_X6_fails_false l D H.size mo ra ca ha ba wa kp hd 2 (by omega) (by omega)) (cwV 2 hts gX6_quotient_X6_fails rfl rfl rfl (by decide +kernel) ⟨Nat.le_of_ble_eq_true rfl, Nat.le_of_ble_eq_true rfl⟩) ⟨(z_fb2), va_recv hK hP (ci := 8) (q0 := 3) rfl rfl, fun U hU hW => ⟨rfl, by rw [hU], by rw [hU]; exact hPc, va_K.moved hW.alike hKc, hDc.weaken (fun _ _ _ _ => trivial)⟩⟩ rfl rfl hl.1 rfl (lv_room (Nat.le_of_ble_eq_true rfl)) dX6_quotient_26 ⟨Nat.le_of_ble_eq_true rfl, Nat.le_of_ble_eq_true rfl⟩) hS (fun q _ h => hFc q h) hFc (fun r26 u26 t H locs ht hvm e26 hB hz1 hk1 hS => ?_)
  obtain ⟨hP1, hK1, hD1⟩ := hB
  rw [ht] at hP1
  obtain ⟨hP, hD⟩ := va_join (wr := [(ra, .inl (kr, 8, .inl (aN rf))), (ca, .inl (kc, 8, .inl (aN cf))), (ha, .inl (kh, 8, .inl (aN hf)))]) (w1 := [(mo, .inr (8, [.int (nI 0), .ref ra, .ref ca, .ref ha, .int (nI kp), .ref ba, .int (nI hd), .ref wa]))]) hP hD [3] [0, 1, 2] rfl rfl (by decide) (by decide) hk1 hFc hP1 hD1
  have hP : va_P D vwCl [(ra, .inl (kr, 8, .inl (aN rf))), (ca, .inl (kc, 8, .inl (aN cf))), (ha, .inl (kh, 8, .inl (aN hf))), (mo, .inr (8, [.int (nI 0), .ref ra, .ref ca, .ref ha, .int (nI kp), .ref ba, .int (nI hd), .ref wa]))] H := hP
  have hD : va_D A [(ra, .inl (kr, 8, .inl (aN rf))), (ca, .inl (kc, 8, .inl (aN cf))), (ha, .inl (kh, 8, .inl (aN hf))), (mo, .inr (8, [.int (nI 0), .ref ra, .ref ca, .ref ha, .int (nI kp), .ref ba, .int (nI hd), .ref wa]))] := hD
  refine W.widen (k := 0) (n := 0) (Nat.le_of_ble_eq_true rfl) (Nat.le_of_ble_eq_true rfl) ?_
  subst e26
  refine z_beq (tgt := 34) hx hb dX6_quotient_29 (by decide) (fun c_29 => ?_) (fun c_29 => absurd c_29 (by decide))
  refine lv_aload_n hx hb dX6_quotient_34 rfl (lv_at hl 0 rfl) ?_
  refine lv_iload_n hx hb dX6_quotient_35 rfl (lv_at hl 1 rfl) ?_
  refine lv_aload_n hx hb dX6_quotient_36 rfl (lv_at hl 0 rfl) ?_
  refine va_get (D := D) (ci := 8) (v := .ref ra) (C := RX6) (T := TX6) (N := 8) hx hb hts nX6_quotient_inX6 hown hK hP 3 rfl rfl 1 (by decide) (hts (.fieldLink RX6 9 "GamefieldModel" "registers" "[I") (by decide +kernel)) (fun _ h9 => h9) rfl dX6_quotient_37 ?_
  refine lv_iload_n hx hb dX6_quotient_40 rfl (lv_at hl 2 rfl) ?_
  refine z_iald hx hb hK hP 0 0 rfl rfl (by omega) (by decide) dX6_quotient_41 ?_
  refine lv_aload_n hx hb dX6_quotient_42 rfl (lv_at hl 0 rfl) ?_
  refine va_get (D := D) (ci := 8) (v := .ref ra) (C := RX6) (T := TX6) (N := 8) hx hb hts nX6_quotient_inX6 hown hK hP 3 rfl rfl 1 (by decide) (hts (.fieldLink RX6 9 "GamefieldModel" "registers" "[I") (by decide +kernel)) (fun _ h9 => h9) rfl dX6_quotient_43 ?_
  refine lv_iload_n hx hb dX6_quotient_46 rfl (lv_at hl 3 rfl) ?_
  refine z_iald hx hb hK hP 0 0 rfl rfl (by omega) (by decide) dX6_quotient_47 ?_
  refine z_ci (va_runS (As := [.int (nI (rf k)), .int (nI (rf i))]) (rest := [.int (nI j), .ref mo]) ⟨hx, hb, hml, hown, hts⟩ (c_X6_quotientOf l D (rf k) (rf i) (by omega) (by omega) (by omega)) (va_cwS 2 hts gX6_quotient_X6_quotientOf rfl rfl rfl (by decide +kernel) ⟨Nat.le_of_ble_eq_true rfl, Nat.le_of_ble_eq_true rfl⟩) ⟨z_fb0, fun U hU hW => ⟨rfl, trivial⟩⟩ rfl rfl hl.1 rfl (lv_room (Nat.le_of_ble_eq_true rfl)) dX6_quotient_48 ⟨Nat.le_of_ble_eq_true rfl, Nat.le_of_ble_eq_true rfl⟩) (fun r48 e48 => ?_)
  subst e48
  have hn48 : qt (rf k) (rf i) < 256 := qt_lt (by omega) (by omega)
  have hPc := hP.sub (ws' := [(mo, .inr (8, [.int (nI 0), .ref ra, .ref ca, .ref ha, .int (nI kp), .ref ba, .int (nI hd), .ref wa])), (ra, .inl (kr, 8, .inl (aN rf))), (ca, .inl (kc, 8, .inl (aN cf))), (ha, .inl (kh, 8, .inl (aN hf)))]) [3, 0, 1, 2] rfl
  have hDc := hD.sub (ws' := [(mo, .inr (8, [.int (nI 0), .ref ra, .ref ca, .ref ha, .int (nI kp), .ref ba, .int (nI hd), .ref wa])), (ra, .inl (kr, 8, .inl (aN rf))), (ca, .inl (kc, 8, .inl (aN cf))), (ha, .inl (kh, 8, .inl (aN hf)))]) [3, 0, 1, 2] (by decide) rfl
  have hKc := hK.sub (tys' := [(kr, .int), (kc, .int), (kh, .int)]) [0, 1, 2] rfl
  have hFc := va_free (wc := [(mo, .inr (8, [.int (nI 0), .ref ra, .ref ca, .ref ha, .int (nI kp), .ref ba, .int (nI hd), .ref wa])), (ra, .inl (kr, 8, .inl (aN rf))), (ca, .inl (kc, 8, .inl (aN cf))), (ha, .inl (kh, 8, .inl (aN hf)))]) hD hS hA [3, 0, 1, 2] rfl
  refine va_calli (va_runV (As := [.int (nI j), .int (nI (qt (rf k) (rf i)))]) (rest := []) ⟨hx, hb, hml, hown, hts⟩ (c_X6_becomes l D H.size mo ra ca ha ba wa kp hd kr kc kh 0 rf cf hf j (qt (rf k) (rf i)) (by omega) (by omega) (by omega) (by omega)) (cwV 2 hts gX6_quotient_X6_becomes rfl rfl rfl (by decide +kernel) ⟨Nat.le_of_ble_eq_true rfl, Nat.le_of_ble_eq_true rfl⟩) ⟨(z_fb2), va_recv hK hP (ci := 8) (q0 := 3) rfl rfl, fun U hU hW => ⟨rfl, by rw [hU], by rw [hU]; exact hPc, va_K.moved hW.alike hKc, hDc.weaken (fun _ _ _ _ => trivial)⟩⟩ rfl rfl hl.1 rfl (lv_room (Nat.le_of_ble_eq_true rfl)) dX6_quotient_51 ⟨Nat.le_of_ble_eq_true rfl, Nat.le_of_ble_eq_true rfl⟩) hS (fun q _ h => hFc q h) hFc (fun r51 u51 t H locs ht hvm e51 hB hz1 hk1 hS => ?_)
  obtain ⟨hP1, hK1, hD1⟩ := hB
  rw [ht] at hP1
  obtain ⟨hP, hD⟩ := va_join (wr := []) (w1 := [(mo, .inr (8, [.int (nI 0), .ref ra, .ref ca, .ref ha, .int (nI (min kp 7 + 1)), .ref ba, .int (nI hd), .ref wa])), (ra, .inl (kr, 8, .inl (aN (va_up rf j (qt (rf k) (rf i)))))), (ca, .inl (kc, 8, .inl (aN (rng cf kp j)))), (ha, .inl (kh, 8, .inl (aN (rng hf kp (rf j)))))]) hP hD [3, 0, 1, 2] [] rfl rfl (by decide) (by decide) hk1 hFc hP1 hD1
  have hP : va_P D vwCl [(mo, .inr (8, [.int (nI 0), .ref ra, .ref ca, .ref ha, .int (nI (min kp 7 + 1)), .ref ba, .int (nI hd), .ref wa])), (ra, .inl (kr, 8, .inl (aN (va_up rf j (qt (rf k) (rf i)))))), (ca, .inl (kc, 8, .inl (aN (rng cf kp j)))), (ha, .inl (kh, 8, .inl (aN (rng hf kp (rf j)))))] H := hP
  have hD : va_D A [(mo, .inr (8, [.int (nI 0), .ref ra, .ref ca, .ref ha, .int (nI (min kp 7 + 1)), .ref ba, .int (nI hd), .ref wa])), (ra, .inl (kr, 8, .inl (aN (va_up rf j (qt (rf k) (rf i)))))), (ca, .inl (kc, 8, .inl (aN (rng cf kp j)))), (ha, .inl (kh, 8, .inl (aN (rng hf kp (rf j)))))] := hD
  refine W.widen (k := 0) (n := 0) (Nat.le_of_ble_eq_true rfl) (Nat.le_of_ble_eq_true rfl) ?_
  subst e51
  have hP9 := hP.sub (ws' := [(mo, .inr (8, [.int (nI 0), .ref ra, .ref ca, .ref ha, .int (nI (min kp 7 + 1)), .ref ba, .int (nI hd), .ref wa])), (ra, .inl (kr, 8, .inl (aN (va_up rf j (qt (rf k) (rf i)))))), (ca, .inl (kc, 8, .inl (aN (rng cf kp j)))), (ha, .inl (kh, 8, .inl (aN (rng hf kp (rf j)))))]) [0, 1, 2, 3] rfl
  have hD9 := hD.sub (ws' := [(mo, .inr (8, [.int (nI 0), .ref ra, .ref ca, .ref ha, .int (nI (min kp 7 + 1)), .ref ba, .int (nI hd), .ref wa])), (ra, .inl (kr, 8, .inl (aN (va_up rf j (qt (rf k) (rf i)))))), (ca, .inl (kc, 8, .inl (aN (rng cf kp j)))), (ha, .inl (kh, 8, .inl (aN (rng hf kp (rf j)))))]) [0, 1, 2, 3] (by decide) rfl
  have hK9 := hK.sub (tys' := [(kr, .int), (kc, .int), (kh, .int)]) [0, 1, 2] rfl
  subst hAe
  refine W.widen (k := 0) (n := 0) (Nat.le_of_ble_eq_true rfl) (Nat.le_of_ble_eq_true rfl) ?_
  exact W.iret hx hb hr (fun t ht hW => ⟨⟨_, (), rfl, (rfl), by rw [ht]; exact hP9, va_K.moved hW.alike hK9, hD9⟩, hS.F ht⟩) hS.2.2 dX6_quotient_54
abbrev rm_c_X6_quotient_no : Room := { frames := 2, cells := 0, slots := 0, locals := 45 }
abbrev q_c_X6_quotient_no (D : va_G) (sz : Nat) (mo : Nat) (ra : Nat) (ca : Nat) (ha : Nat) (ba : Nat) (wa : Nat) (kp : Nat) (hd : Nat) (kr : ClassId) (kc : ClassId) (kh : ClassId) (th : Nat) (rf : Nat → Nat) (cf : Nat → Nat) (hf : Nat → Nat) (x0 : Int32) (x1 : Int32) (x2 : Int32) : Array Value → State → Outcome → State → Prop := va_Qi (fun r (_ : Unit) => r = (nI 0)) (fun (_ : Unit) t => va_P D vwCl [(mo, .inr (8, [.int (nI 1), .ref ra, .ref ca, .ref ha, .int (nI kp), .ref ba, .int (nI hd), .ref wa])), (ra, .inl (kr, 8, .inl (aN rf))), (ca, .inl (kc, 8, .inl (aN cf))), (ha, .inl (kh, 8, .inl (aN hf)))] t.heap ∧ va_K D vwCl [(kr, .int), (kc, .int), (kh, .int)] t ∧ va_D (va_A [(mo, .inr (8, [.int (nI th), .ref ra, .ref ca, .ref ha, .int (nI kp), .ref ba, .int (nI hd), .ref wa])), (ra, .inl (kr, 8, .inl (aN rf))), (ca, .inl (kc, 8, .inl (aN cf))), (ha, .inl (kh, 8, .inl (aN hf)))] sz) [(mo, .inr (8, [.int (nI 1), .ref ra, .ref ca, .ref ha, .int (nI kp), .ref ba, .int (nI hd), .ref wa])), (ra, .inl (kr, 8, .inl (aN rf))), (ca, .inl (kc, 8, .inl (aN cf))), (ha, .inl (kh, 8, .inl (aN hf)))]) (va_A [(mo, .inr (8, [.int (nI th), .ref ra, .ref ca, .ref ha, .int (nI kp), .ref ba, .int (nI hd), .ref wa])), (ra, .inl (kr, 8, .inl (aN rf))), (ca, .inl (kc, 8, .inl (aN cf))), (ha, .inl (kh, 8, .inl (aN hf)))] sz)
set_option maxHeartbeats 4000000 in
set_option maxRecDepth 100000 in
theorem c_X6_quotient_no (l : Launch) (D : va_G) (sz : Nat) (mo : Nat) (ra : Nat) (ca : Nat) (ha : Nat) (ba : Nat) (wa : Nat) (kp : Nat) (hd : Nat) (kr : ClassId) (kc : ClassId) (kh : ClassId) (th : Nat) (rf : Nat → Nat) (cf : Nat → Nat) (hf : Nat → Nat) (x0 : Int32) (x1 : Int32) (x2 : Int32) (hrf : ∀ k, k < 8 → rf k < 256) (hkp : kp ≤ 8) (hno : ok3 x0 x1 x2 = false) : Met l yX6_quotient wsX6_quotient rm_c_X6_quotient_no (va_Pc [.ref mo, .int x0, .int x1, .int x2] (fun U => U.heap.size = sz ∧ va_P D vwCl [(mo, .inr (8, [.int (nI th), .ref ra, .ref ca, .ref ha, .int (nI kp), .ref ba, .int (nI hd), .ref wa])), (ra, .inl (kr, 8, .inl (aN rf))), (ca, .inl (kc, 8, .inl (aN cf))), (ha, .inl (kh, 8, .inl (aN hf)))] U.heap ∧ va_K D vwCl [(kr, .int), (kc, .int), (kh, .int)] U ∧ va_D (fun _ => True) [(mo, .inr (8, [.int (nI th), .ref ra, .ref ca, .ref ha, .int (nI kp), .ref ba, .int (nI hd), .ref wa])), (ra, .inl (kr, 8, .inl (aN rf))), (ca, .inl (kc, 8, .inl (aN cf))), (ha, .inl (kh, 8, .inl (aN hf)))])) (q_c_X6_quotient_no D sz mo ra ca ha ba wa kp hd kr kc kh th rf cf hf x0 x1 x2) 0 0 (va_A [(mo, .inr (8, [.int (nI th), .ref ra, .ref ca, .ref ha, .int (nI kp), .ref ba, .int (nI hd), .ref wa])), (ra, .inl (kr, 8, .inl (aN rf))), (ca, .inl (kc, 8, .inl (aN cf))), (ha, .inl (kh, 8, .inl (aN hf)))] sz) := by
  refine Met.ofW (cc := cX6_quotient) (maxL := 4) (ret := (some .int)) (by decide) rfl ?_
  intro p e s m args below meth c s₁ B hml hv
  obtain ⟨hargs, hsz, hP, hK, hD0⟩ := hv
  have hx := B.exec
  have hb := B.bytes
  have hr := B.returns
  have hts := atoms_spec (ws := wsX6_quotient) B.pre
  have hown : s.vm.findClass RX6 = some m.cls := findClass_of_methodNamed B.named
  have hlocks := B.notSynchronized
  subst hsz
  have hD := hD0.self (sz := s.heap.size)
  generalize hAe : va_A [(mo, .inr (8, [.int (nI th), .ref ra, .ref ca, .ref ha, .int (nI kp), .ref ba, .int (nI hd), .ref wa])), (ra, .inl (kr, 8, .inl (aN rf))), (ca, .inl (kc, 8, .inl (aN cf))), (ha, .inl (kh, 8, .inl (aN hf)))] s.heap.size = A at hD ⊢
  have hA : ∀ q : Nat, s.heap.size ≤ q → A q := fun q h => by rw [← hAe]; exact Or.inr h
  have hS : va_S A s.heap s.heap [] := va_S.rf
  have hl := lv_entry ([.ref mo, .int x0, .int x1, .int x2]) (n := 4) (Nat.le_of_ble_eq_true rfl)
  refine W.eq (g2 := F0 m 0 (lg_sl ([.ref mo, .int x0, .int x1, .int x2]) ++ List.replicate (4 - (lg_sl ([.ref mo, .int x0, .int x1, .int x2])).length) Slot.unset).toArray []) (by rw [hargs]; exact lg_entry_eq _ _ _) ?_
  generalize (lg_sl ([.ref mo, .int x0, .int x1, .int x2]) ++ List.replicate (4 - (lg_sl ([.ref mo, .int x0, .int x1, .int x2])).length) Slot.unset).toArray = ls at hl ⊢
  have hl : lv_has ls 4 [(0, .ref mo), (1, .int x0), (2, .int x1), (3, .int x2)] := hl
  refine lv_aload_n hx hb dX6_quotient_0 rfl (lv_at hl 0 rfl) ?_
  refine lv_iload_n hx hb dX6_quotient_1 rfl (lv_at hl 1 rfl) ?_
  refine lv_iload_n hx hb dX6_quotient_2 rfl (lv_at hl 2 rfl) ?_
  refine lv_iload_n hx hb dX6_quotient_3 rfl (lv_at hl 3 rfl) ?_
  have hPc := hP.sub (ws' := [(mo, .inr (8, [.int (nI th), .ref ra, .ref ca, .ref ha, .int (nI kp), .ref ba, .int (nI hd), .ref wa]))]) [0] rfl
  have hDc := hD.sub (ws' := [(mo, .inr (8, [.int (nI th), .ref ra, .ref ca, .ref ha, .int (nI kp), .ref ba, .int (nI hd), .ref wa]))]) [0] (by decide) rfl
  have hKc := hK.sub (tys' := []) [] rfl
  have hFc := va_free (wc := [(mo, .inr (8, [.int (nI th), .ref ra, .ref ca, .ref ha, .int (nI kp), .ref ba, .int (nI hd), .ref wa]))]) hD hS hA [0] rfl
  refine va_calli (va_runV (As := [.int x0, .int x1, .int x2]) (rest := []) ⟨hx, hb, hml, hown, hts⟩ (c_X6_areNone_no l D s.heap.size mo ra ca ha ba wa kp hd th x0 x1 x2 (hno)) (cwV 3 hts gX6_quotient_X6_areNone rfl rfl rfl (by decide +kernel) ⟨Nat.le_of_ble_eq_true rfl, Nat.le_of_ble_eq_true rfl⟩) ⟨(z_fb2), va_recv hK hP (ci := 8) (q0 := 0) rfl rfl, fun U hU hW => ⟨rfl, by rw [hU], by rw [hU]; exact hPc, va_K.moved hW.alike hKc, hDc.weaken (fun _ _ _ _ => trivial)⟩⟩ rfl rfl hl.1 rfl (lv_room (Nat.le_of_ble_eq_true rfl)) dX6_quotient_4 ⟨Nat.le_of_ble_eq_true rfl, Nat.le_of_ble_eq_true rfl⟩) hS (fun q _ h => hFc q h) hFc (fun r4 u4 t H locs ht hvm e4 hB hz1 hk1 hS => ?_)
  obtain ⟨hP1, hK1, hD1⟩ := hB
  rw [ht] at hP1
  obtain ⟨hP, hD⟩ := va_join (wr := [(ra, .inl (kr, 8, .inl (aN rf))), (ca, .inl (kc, 8, .inl (aN cf))), (ha, .inl (kh, 8, .inl (aN hf)))]) (w1 := [(mo, .inr (8, [.int (nI 1), .ref ra, .ref ca, .ref ha, .int (nI kp), .ref ba, .int (nI hd), .ref wa]))]) hP hD [0] [1, 2, 3] rfl rfl (by decide) (by decide) hk1 hFc hP1 hD1
  have hP : va_P D vwCl [(ra, .inl (kr, 8, .inl (aN rf))), (ca, .inl (kc, 8, .inl (aN cf))), (ha, .inl (kh, 8, .inl (aN hf))), (mo, .inr (8, [.int (nI 1), .ref ra, .ref ca, .ref ha, .int (nI kp), .ref ba, .int (nI hd), .ref wa]))] H := hP
  have hD : va_D A [(ra, .inl (kr, 8, .inl (aN rf))), (ca, .inl (kc, 8, .inl (aN cf))), (ha, .inl (kh, 8, .inl (aN hf))), (mo, .inr (8, [.int (nI 1), .ref ra, .ref ca, .ref ha, .int (nI kp), .ref ba, .int (nI hd), .ref wa]))] := hD
  refine W.widen (k := 0) (n := 0) (Nat.le_of_ble_eq_true rfl) (Nat.le_of_ble_eq_true rfl) ?_
  subst e4
  refine z_bne (tgt := 32) hx hb dX6_quotient_7 (by decide) (fun c_7 => ?_) (fun c_7 => absurd c_7 (by decide))
  refine lv_iconst (v := nI 0) hx hb dX6_quotient_32 zki_0 ?_
  have hP9 := hP.sub (ws' := [(mo, .inr (8, [.int (nI 1), .ref ra, .ref ca, .ref ha, .int (nI kp), .ref ba, .int (nI hd), .ref wa])), (ra, .inl (kr, 8, .inl (aN rf))), (ca, .inl (kc, 8, .inl (aN cf))), (ha, .inl (kh, 8, .inl (aN hf)))]) [3, 0, 1, 2] rfl
  have hD9 := hD.sub (ws' := [(mo, .inr (8, [.int (nI 1), .ref ra, .ref ca, .ref ha, .int (nI kp), .ref ba, .int (nI hd), .ref wa])), (ra, .inl (kr, 8, .inl (aN rf))), (ca, .inl (kc, 8, .inl (aN cf))), (ha, .inl (kh, 8, .inl (aN hf)))]) [3, 0, 1, 2] (by decide) rfl
  have hK9 := hK.sub (tys' := [(kr, .int), (kc, .int), (kh, .int)]) [0, 1, 2] rfl
  subst hAe
  refine W.widen (k := 0) (n := 0) (Nat.le_of_ble_eq_true rfl) (Nat.le_of_ble_eq_true rfl) ?_
  exact W.iret hx hb hr (fun t ht hW => ⟨⟨_, (), rfl, (rfl), by rw [ht]; exact hP9, va_K.moved hW.alike hK9, hD9⟩, hS.F ht⟩) hS.2.2 dX6_quotient_33
abbrev rm_c_X6_quotient_bad : Room := { frames := 2, cells := 0, slots := 0, locals := 45 }
abbrev q_c_X6_quotient_bad (D : va_G) (sz : Nat) (mo : Nat) (ra : Nat) (ca : Nat) (ha : Nat) (ba : Nat) (wa : Nat) (kp : Nat) (hd : Nat) (kr : ClassId) (kc : ClassId) (kh : ClassId) (th : Nat) (rf : Nat → Nat) (cf : Nat → Nat) (hf : Nat → Nat) (j : Nat) (k : Nat) (i : Nat) : Array Value → State → Outcome → State → Prop := va_Qi (fun r (_ : Unit) => r = (nI 0)) (fun (_ : Unit) t => va_P D vwCl [(mo, .inr (8, [.int (nI 2), .ref ra, .ref ca, .ref ha, .int (nI kp), .ref ba, .int (nI hd), .ref wa])), (ra, .inl (kr, 8, .inl (aN rf))), (ca, .inl (kc, 8, .inl (aN cf))), (ha, .inl (kh, 8, .inl (aN hf)))] t.heap ∧ va_K D vwCl [(kr, .int), (kc, .int), (kh, .int)] t ∧ va_D (va_A [(mo, .inr (8, [.int (nI th), .ref ra, .ref ca, .ref ha, .int (nI kp), .ref ba, .int (nI hd), .ref wa])), (ra, .inl (kr, 8, .inl (aN rf))), (ca, .inl (kc, 8, .inl (aN cf))), (ha, .inl (kh, 8, .inl (aN hf)))] sz) [(mo, .inr (8, [.int (nI 2), .ref ra, .ref ca, .ref ha, .int (nI kp), .ref ba, .int (nI hd), .ref wa])), (ra, .inl (kr, 8, .inl (aN rf))), (ca, .inl (kc, 8, .inl (aN cf))), (ha, .inl (kh, 8, .inl (aN hf)))]) (va_A [(mo, .inr (8, [.int (nI th), .ref ra, .ref ca, .ref ha, .int (nI kp), .ref ba, .int (nI hd), .ref wa])), (ra, .inl (kr, 8, .inl (aN rf))), (ca, .inl (kc, 8, .inl (aN cf))), (ha, .inl (kh, 8, .inl (aN hf)))] sz)
set_option maxHeartbeats 4000000 in
set_option maxRecDepth 100000 in
theorem c_X6_quotient_bad (l : Launch) (D : va_G) (sz : Nat) (mo : Nat) (ra : Nat) (ca : Nat) (ha : Nat) (ba : Nat) (wa : Nat) (kp : Nat) (hd : Nat) (kr : ClassId) (kc : ClassId) (kh : ClassId) (th : Nat) (rf : Nat → Nat) (cf : Nat → Nat) (hf : Nat → Nat) (j : Nat) (k : Nat) (i : Nat) (hrf : ∀ k, k < 8 → rf k < 256) (hkp : kp ≤ 8) (hj : j < 8) (hk : k < 8) (hi : i < 8) (hz : rf i = 0) : Met l yX6_quotient wsX6_quotient rm_c_X6_quotient_bad (va_Pc [.ref mo, .int (nI j), .int (nI k), .int (nI i)] (fun U => U.heap.size = sz ∧ va_P D vwCl [(mo, .inr (8, [.int (nI th), .ref ra, .ref ca, .ref ha, .int (nI kp), .ref ba, .int (nI hd), .ref wa])), (ra, .inl (kr, 8, .inl (aN rf))), (ca, .inl (kc, 8, .inl (aN cf))), (ha, .inl (kh, 8, .inl (aN hf)))] U.heap ∧ va_K D vwCl [(kr, .int), (kc, .int), (kh, .int)] U ∧ va_D (fun _ => True) [(mo, .inr (8, [.int (nI th), .ref ra, .ref ca, .ref ha, .int (nI kp), .ref ba, .int (nI hd), .ref wa])), (ra, .inl (kr, 8, .inl (aN rf))), (ca, .inl (kc, 8, .inl (aN cf))), (ha, .inl (kh, 8, .inl (aN hf)))])) (q_c_X6_quotient_bad D sz mo ra ca ha ba wa kp hd kr kc kh th rf cf hf j k i) 0 0 (va_A [(mo, .inr (8, [.int (nI th), .ref ra, .ref ca, .ref ha, .int (nI kp), .ref ba, .int (nI hd), .ref wa])), (ra, .inl (kr, 8, .inl (aN rf))), (ca, .inl (kc, 8, .inl (aN cf))), (ha, .inl (kh, 8, .inl (aN hf)))] sz) := by
  refine Met.ofW (cc := cX6_quotient) (maxL := 4) (ret := (some .int)) (by decide) rfl ?_
  intro p e s m args below meth c s₁ B hml hv
  obtain ⟨hargs, hsz, hP, hK, hD0⟩ := hv
  have hx := B.exec
  have hb := B.bytes
  have hr := B.returns
  have hts := atoms_spec (ws := wsX6_quotient) B.pre
  have hown : s.vm.findClass RX6 = some m.cls := findClass_of_methodNamed B.named
  have hlocks := B.notSynchronized
  subst hsz
  have hD := hD0.self (sz := s.heap.size)
  generalize hAe : va_A [(mo, .inr (8, [.int (nI th), .ref ra, .ref ca, .ref ha, .int (nI kp), .ref ba, .int (nI hd), .ref wa])), (ra, .inl (kr, 8, .inl (aN rf))), (ca, .inl (kc, 8, .inl (aN cf))), (ha, .inl (kh, 8, .inl (aN hf)))] s.heap.size = A at hD ⊢
  have hA : ∀ q : Nat, s.heap.size ≤ q → A q := fun q h => by rw [← hAe]; exact Or.inr h
  have hS : va_S A s.heap s.heap [] := va_S.rf
  have hl := lv_entry ([.ref mo, .int (nI j), .int (nI k), .int (nI i)]) (n := 4) (Nat.le_of_ble_eq_true rfl)
  refine W.eq (g2 := F0 m 0 (lg_sl ([.ref mo, .int (nI j), .int (nI k), .int (nI i)]) ++ List.replicate (4 - (lg_sl ([.ref mo, .int (nI j), .int (nI k), .int (nI i)])).length) Slot.unset).toArray []) (by rw [hargs]; exact lg_entry_eq _ _ _) ?_
  generalize (lg_sl ([.ref mo, .int (nI j), .int (nI k), .int (nI i)]) ++ List.replicate (4 - (lg_sl ([.ref mo, .int (nI j), .int (nI k), .int (nI i)])).length) Slot.unset).toArray = ls at hl ⊢
  have hl : lv_has ls 4 [(0, .ref mo), (1, .int (nI j)), (2, .int (nI k)), (3, .int (nI i))] := hl
  refine lv_aload_n hx hb dX6_quotient_0 rfl (lv_at hl 0 rfl) ?_
  refine lv_iload_n hx hb dX6_quotient_1 rfl (lv_at hl 1 rfl) ?_
  refine lv_iload_n hx hb dX6_quotient_2 rfl (lv_at hl 2 rfl) ?_
  refine lv_iload_n hx hb dX6_quotient_3 rfl (lv_at hl 3 rfl) ?_
  have hPc := hP.sub (ws' := [(mo, .inr (8, [.int (nI th), .ref ra, .ref ca, .ref ha, .int (nI kp), .ref ba, .int (nI hd), .ref wa]))]) [0] rfl
  have hDc := hD.sub (ws' := [(mo, .inr (8, [.int (nI th), .ref ra, .ref ca, .ref ha, .int (nI kp), .ref ba, .int (nI hd), .ref wa]))]) [0] (by decide) rfl
  have hKc := hK.sub (tys' := []) [] rfl
  have hFc := va_free (wc := [(mo, .inr (8, [.int (nI th), .ref ra, .ref ca, .ref ha, .int (nI kp), .ref ba, .int (nI hd), .ref wa]))]) hD hS hA [0] rfl
  refine va_calli (va_runV (As := [.int (nI j), .int (nI k), .int (nI i)]) (rest := []) ⟨hx, hb, hml, hown, hts⟩ (c_X6_areNone_ok l D s.heap.size mo ra ca ha ba wa kp hd th j k i (by omega) (by omega) (by omega)) (cwV 3 hts gX6_quotient_X6_areNone rfl rfl rfl (by decide +kernel) ⟨Nat.le_of_ble_eq_true rfl, Nat.le_of_ble_eq_true rfl⟩) ⟨(z_fb2), va_recv hK hP (ci := 8) (q0 := 0) rfl rfl, fun U hU hW => ⟨rfl, by rw [hU], by rw [hU]; exact hPc, va_K.moved hW.alike hKc, hDc.weaken (fun _ _ _ _ => trivial)⟩⟩ rfl rfl hl.1 rfl (lv_room (Nat.le_of_ble_eq_true rfl)) dX6_quotient_4 ⟨Nat.le_of_ble_eq_true rfl, Nat.le_of_ble_eq_true rfl⟩) hS (fun q _ h => hFc q h) hFc (fun r4 u4 t H locs ht hvm e4 hB hz1 hk1 hS => ?_)
  obtain ⟨hP1, hK1, hD1⟩ := hB
  rw [ht] at hP1
  obtain ⟨hP, hD⟩ := va_join (wr := [(ra, .inl (kr, 8, .inl (aN rf))), (ca, .inl (kc, 8, .inl (aN cf))), (ha, .inl (kh, 8, .inl (aN hf)))]) (w1 := [(mo, .inr (8, [.int (nI 0), .ref ra, .ref ca, .ref ha, .int (nI kp), .ref ba, .int (nI hd), .ref wa]))]) hP hD [0] [1, 2, 3] rfl rfl (by decide) (by decide) hk1 hFc hP1 hD1
  have hP : va_P D vwCl [(ra, .inl (kr, 8, .inl (aN rf))), (ca, .inl (kc, 8, .inl (aN cf))), (ha, .inl (kh, 8, .inl (aN hf))), (mo, .inr (8, [.int (nI 0), .ref ra, .ref ca, .ref ha, .int (nI kp), .ref ba, .int (nI hd), .ref wa]))] H := hP
  have hD : va_D A [(ra, .inl (kr, 8, .inl (aN rf))), (ca, .inl (kc, 8, .inl (aN cf))), (ha, .inl (kh, 8, .inl (aN hf))), (mo, .inr (8, [.int (nI 0), .ref ra, .ref ca, .ref ha, .int (nI kp), .ref ba, .int (nI hd), .ref wa]))] := hD
  refine W.widen (k := 0) (n := 0) (Nat.le_of_ble_eq_true rfl) (Nat.le_of_ble_eq_true rfl) ?_
  subst e4
  refine z_bne (tgt := 32) hx hb dX6_quotient_7 (by decide) (fun c_7 => absurd c_7 (by decide)) (fun c_7 => ?_)
  refine lv_aload_n hx hb dX6_quotient_10 rfl (lv_at hl 0 rfl) ?_
  refine lv_aload_n hx hb dX6_quotient_11 rfl (lv_at hl 0 rfl) ?_
  refine va_get (D := D) (ci := 8) (v := .ref ra) (C := RX6) (T := TX6) (N := 8) hx hb hts nX6_quotient_inX6 hown hK hP 3 rfl rfl 1 (by decide) (hts (.fieldLink RX6 9 "GamefieldModel" "registers" "[I") (by decide +kernel)) (fun _ h9 => h9) rfl dX6_quotient_12 ?_
  refine lv_iload_n hx hb dX6_quotient_15 rfl (lv_at hl 3 rfl) ?_
  refine z_iald hx hb hK hP 0 0 rfl rfl (by omega) (by decide) dX6_quotient_16 ?_
  refine z_fne (tgt := 24) hx hb (by omega) dX6_quotient_17 (by decide) (fun c_17 => absurd hz (by omega)) (fun c_17 => ?_)
  refine lv_iconst (v := nI 1) hx hb dX6_quotient_20 zki_1 ?_
  refine lv_goto (tgt := 25) hx hb dX6_quotient_21 (by decide) ?_
  refine lv_iconst (v := nI 2) hx hb dX6_quotient_25 zki_2 ?_
  have hPc := hP.sub (ws' := [(mo, .inr (8, [.int (nI 0), .ref ra, .ref ca, .ref ha, .int (nI kp), .ref ba, .int (nI hd), .ref wa]))]) [3] rfl
  have hDc := hD.sub (ws' := [(mo, .inr (8, [.int (nI 0), .ref ra, .ref ca, .ref ha, .int (nI kp), .ref ba, .int (nI hd), .ref wa]))]) [3] (by decide) rfl
  have hKc := hK.sub (tys' := []) [] rfl
  have hFc := va_free (wc := [(mo, .inr (8, [.int (nI 0), .ref ra, .ref ca, .ref ha, .int (nI kp), .ref ba, .int (nI hd), .ref wa]))]) hD hS hA [3] rfl
  refine va_calli (va_runV (As := [.int (nI 1), .int (nI 2)]) (rest := []) ⟨hx, hb, hml, hown, hts⟩ (c_X6_fails_true l D H.size mo ra ca ha ba wa kp hd 2 (by omega) (by omega)) (cwV 2 hts gX6_quotient_X6_fails rfl rfl rfl (by decide +kernel) ⟨Nat.le_of_ble_eq_true rfl, Nat.le_of_ble_eq_true rfl⟩) ⟨(z_fb2), va_recv hK hP (ci := 8) (q0 := 3) rfl rfl, fun U hU hW => ⟨rfl, by rw [hU], by rw [hU]; exact hPc, va_K.moved hW.alike hKc, hDc.weaken (fun _ _ _ _ => trivial)⟩⟩ rfl rfl hl.1 rfl (lv_room (Nat.le_of_ble_eq_true rfl)) dX6_quotient_26 ⟨Nat.le_of_ble_eq_true rfl, Nat.le_of_ble_eq_true rfl⟩) hS (fun q _ h => hFc q h) hFc (fun r26 u26 t H locs ht hvm e26 hB hz1 hk1 hS => ?_)
  obtain ⟨hP1, hK1, hD1⟩ := hB
  rw [ht] at hP1
  obtain ⟨hP, hD⟩ := va_join (wr := [(ra, .inl (kr, 8, .inl (aN rf))), (ca, .inl (kc, 8, .inl (aN cf))), (ha, .inl (kh, 8, .inl (aN hf)))]) (w1 := [(mo, .inr (8, [.int (nI 2), .ref ra, .ref ca, .ref ha, .int (nI kp), .ref ba, .int (nI hd), .ref wa]))]) hP hD [3] [0, 1, 2] rfl rfl (by decide) (by decide) hk1 hFc hP1 hD1
  have hP : va_P D vwCl [(ra, .inl (kr, 8, .inl (aN rf))), (ca, .inl (kc, 8, .inl (aN cf))), (ha, .inl (kh, 8, .inl (aN hf))), (mo, .inr (8, [.int (nI 2), .ref ra, .ref ca, .ref ha, .int (nI kp), .ref ba, .int (nI hd), .ref wa]))] H := hP
  have hD : va_D A [(ra, .inl (kr, 8, .inl (aN rf))), (ca, .inl (kc, 8, .inl (aN cf))), (ha, .inl (kh, 8, .inl (aN hf))), (mo, .inr (8, [.int (nI 2), .ref ra, .ref ca, .ref ha, .int (nI kp), .ref ba, .int (nI hd), .ref wa]))] := hD
  refine W.widen (k := 0) (n := 0) (Nat.le_of_ble_eq_true rfl) (Nat.le_of_ble_eq_true rfl) ?_
  subst e26
  refine z_beq (tgt := 34) hx hb dX6_quotient_29 (by decide) (fun c_29 => absurd c_29 (by decide)) (fun c_29 => ?_)
  refine lv_iconst (v := nI 0) hx hb dX6_quotient_32 zki_0 ?_
  have hP9 := hP.sub (ws' := [(mo, .inr (8, [.int (nI 2), .ref ra, .ref ca, .ref ha, .int (nI kp), .ref ba, .int (nI hd), .ref wa])), (ra, .inl (kr, 8, .inl (aN rf))), (ca, .inl (kc, 8, .inl (aN cf))), (ha, .inl (kh, 8, .inl (aN hf)))]) [3, 0, 1, 2] rfl
  have hD9 := hD.sub (ws' := [(mo, .inr (8, [.int (nI 2), .ref ra, .ref ca, .ref ha, .int (nI kp), .ref ba, .int (nI hd), .ref wa])), (ra, .inl (kr, 8, .inl (aN rf))), (ca, .inl (kc, 8, .inl (aN cf))), (ha, .inl (kh, 8, .inl (aN hf)))]) [3, 0, 1, 2] (by decide) rfl
  have hK9 := hK.sub (tys' := [(kr, .int), (kc, .int), (kh, .int)]) [0, 1, 2] rfl
  subst hAe
  refine W.widen (k := 0) (n := 0) (Nat.le_of_ble_eq_true rfl) (Nat.le_of_ble_eq_true rfl) ?_
  exact W.iret hx hb hr (fun t ht hW => ⟨⟨_, (), rfl, (rfl), by rw [ht]; exact hP9, va_K.moved hW.alike hK9, hD9⟩, hS.F ht⟩) hS.2.2 dX6_quotient_33
abbrev rm_c_X6_field_ok : Room := { frames := 2, cells := 0, slots := 0, locals := 45 }
abbrev q_c_X6_field_ok (D : va_G) (sz : Nat) (mo : Nat) (ra : Nat) (ca : Nat) (ha : Nat) (ba : Nat) (wa : Nat) (kp : Nat) (hd : Nat) (kr : ClassId) (kc : ClassId) (kh : ClassId) (th : Nat) (rf : Nat → Nat) (cf : Nat → Nat) (hf : Nat → Nat) (j : Nat) : Array Value → State → Outcome → State → Prop := va_Qi (fun r (_ : Unit) => r = (nI (fdo (rf j)))) (fun (_ : Unit) t => va_P D vwCl [(mo, .inr (8, [.int (nI 0), .ref ra, .ref ca, .ref ha, .int (nI kp), .ref ba, .int (nI hd), .ref wa])), (ra, .inl (kr, 8, .inl (aN rf))), (ca, .inl (kc, 8, .inl (aN cf))), (ha, .inl (kh, 8, .inl (aN hf)))] t.heap ∧ va_K D vwCl [(kr, .int), (kc, .int), (kh, .int)] t ∧ va_D (va_A [(mo, .inr (8, [.int (nI th), .ref ra, .ref ca, .ref ha, .int (nI kp), .ref ba, .int (nI hd), .ref wa])), (ra, .inl (kr, 8, .inl (aN rf))), (ca, .inl (kc, 8, .inl (aN cf))), (ha, .inl (kh, 8, .inl (aN hf)))] sz) [(mo, .inr (8, [.int (nI 0), .ref ra, .ref ca, .ref ha, .int (nI kp), .ref ba, .int (nI hd), .ref wa])), (ra, .inl (kr, 8, .inl (aN rf))), (ca, .inl (kc, 8, .inl (aN cf))), (ha, .inl (kh, 8, .inl (aN hf)))]) (va_A [(mo, .inr (8, [.int (nI th), .ref ra, .ref ca, .ref ha, .int (nI kp), .ref ba, .int (nI hd), .ref wa])), (ra, .inl (kr, 8, .inl (aN rf))), (ca, .inl (kc, 8, .inl (aN cf))), (ha, .inl (kh, 8, .inl (aN hf)))] sz)
set_option maxHeartbeats 4000000 in
set_option maxRecDepth 100000 in
theorem c_X6_field_ok (l : Launch) (D : va_G) (sz : Nat) (mo : Nat) (ra : Nat) (ca : Nat) (ha : Nat) (ba : Nat) (wa : Nat) (kp : Nat) (hd : Nat) (kr : ClassId) (kc : ClassId) (kh : ClassId) (th : Nat) (rf : Nat → Nat) (cf : Nat → Nat) (hf : Nat → Nat) (j : Nat) (hrf : ∀ k, k < 8 → rf k < 256) (hkp : kp ≤ 8) (hj : j < 8) : Met l yX6_field wsX6_field rm_c_X6_field_ok (va_Pc [.ref mo, .int (nI j)] (fun U => U.heap.size = sz ∧ va_P D vwCl [(mo, .inr (8, [.int (nI th), .ref ra, .ref ca, .ref ha, .int (nI kp), .ref ba, .int (nI hd), .ref wa])), (ra, .inl (kr, 8, .inl (aN rf))), (ca, .inl (kc, 8, .inl (aN cf))), (ha, .inl (kh, 8, .inl (aN hf)))] U.heap ∧ va_K D vwCl [(kr, .int), (kc, .int), (kh, .int)] U ∧ va_D (fun _ => True) [(mo, .inr (8, [.int (nI th), .ref ra, .ref ca, .ref ha, .int (nI kp), .ref ba, .int (nI hd), .ref wa])), (ra, .inl (kr, 8, .inl (aN rf))), (ca, .inl (kc, 8, .inl (aN cf))), (ha, .inl (kh, 8, .inl (aN hf)))])) (q_c_X6_field_ok D sz mo ra ca ha ba wa kp hd kr kc kh th rf cf hf j) 0 0 (va_A [(mo, .inr (8, [.int (nI th), .ref ra, .ref ca, .ref ha, .int (nI kp), .ref ba, .int (nI hd), .ref wa])), (ra, .inl (kr, 8, .inl (aN rf))), (ca, .inl (kc, 8, .inl (aN cf))), (ha, .inl (kh, 8, .inl (aN hf)))] sz) := by
  refine Met.ofW (cc := cX6_field) (maxL := 3) (ret := (some .int)) (by decide) rfl ?_
  intro p e s m args below meth c s₁ B hml hv
  obtain ⟨hargs, hsz, hP, hK, hD0⟩ := hv
  have hx := B.exec
  have hb := B.bytes
  have hr := B.returns
  have hts := atoms_spec (ws := wsX6_field) B.pre
  have hown : s.vm.findClass RX6 = some m.cls := findClass_of_methodNamed B.named
  have hlocks := B.notSynchronized
  subst hsz
  have hD := hD0.self (sz := s.heap.size)
  generalize hAe : va_A [(mo, .inr (8, [.int (nI th), .ref ra, .ref ca, .ref ha, .int (nI kp), .ref ba, .int (nI hd), .ref wa])), (ra, .inl (kr, 8, .inl (aN rf))), (ca, .inl (kc, 8, .inl (aN cf))), (ha, .inl (kh, 8, .inl (aN hf)))] s.heap.size = A at hD ⊢
  have hA : ∀ q : Nat, s.heap.size ≤ q → A q := fun q h => by rw [← hAe]; exact Or.inr h
  have hS : va_S A s.heap s.heap [] := va_S.rf
  have hl := lv_entry ([.ref mo, .int (nI j)]) (n := 3) (Nat.le_of_ble_eq_true rfl)
  refine W.eq (g2 := F0 m 0 (lg_sl ([.ref mo, .int (nI j)]) ++ List.replicate (3 - (lg_sl ([.ref mo, .int (nI j)])).length) Slot.unset).toArray []) (by rw [hargs]; exact lg_entry_eq _ _ _) ?_
  generalize (lg_sl ([.ref mo, .int (nI j)]) ++ List.replicate (3 - (lg_sl ([.ref mo, .int (nI j)])).length) Slot.unset).toArray = ls at hl ⊢
  have hl : lv_has ls 3 [(0, .ref mo), (1, .int (nI j))] := hl
  refine lv_aload_n hx hb dX6_field_0 rfl (lv_at hl 0 rfl) ?_
  refine lv_iload_n hx hb dX6_field_1 rfl (lv_at hl 1 rfl) ?_
  refine lv_iconst (v := nI 0) hx hb dX6_field_2 zki_0 ?_
  refine lv_iconst (v := nI 0) hx hb dX6_field_3 zki_0 ?_
  have hPc := hP.sub (ws' := [(mo, .inr (8, [.int (nI th), .ref ra, .ref ca, .ref ha, .int (nI kp), .ref ba, .int (nI hd), .ref wa]))]) [0] rfl
  have hDc := hD.sub (ws' := [(mo, .inr (8, [.int (nI th), .ref ra, .ref ca, .ref ha, .int (nI kp), .ref ba, .int (nI hd), .ref wa]))]) [0] (by decide) rfl
  have hKc := hK.sub (tys' := []) [] rfl
  have hFc := va_free (wc := [(mo, .inr (8, [.int (nI th), .ref ra, .ref ca, .ref ha, .int (nI kp), .ref ba, .int (nI hd), .ref wa]))]) hD hS hA [0] rfl
  refine va_calli (va_runV (As := [.int (nI j), .int (nI 0), .int (nI 0)]) (rest := []) ⟨hx, hb, hml, hown, hts⟩ (c_X6_areNone_ok l D s.heap.size mo ra ca ha ba wa kp hd th j 0 0 (by omega) (by omega) (by omega)) (cwV 3 hts gX6_field_X6_areNone rfl rfl rfl (by decide +kernel) ⟨Nat.le_of_ble_eq_true rfl, Nat.le_of_ble_eq_true rfl⟩) ⟨(z_fb2), va_recv hK hP (ci := 8) (q0 := 0) rfl rfl, fun U hU hW => ⟨rfl, by rw [hU], by rw [hU]; exact hPc, va_K.moved hW.alike hKc, hDc.weaken (fun _ _ _ _ => trivial)⟩⟩ rfl rfl hl.1 rfl (lv_room (Nat.le_of_ble_eq_true rfl)) dX6_field_4 ⟨Nat.le_of_ble_eq_true rfl, Nat.le_of_ble_eq_true rfl⟩) hS (fun q _ h => hFc q h) hFc (fun r4 u4 t H locs ht hvm e4 hB hz1 hk1 hS => ?_)
  obtain ⟨hP1, hK1, hD1⟩ := hB
  rw [ht] at hP1
  obtain ⟨hP, hD⟩ := va_join (wr := [(ra, .inl (kr, 8, .inl (aN rf))), (ca, .inl (kc, 8, .inl (aN cf))), (ha, .inl (kh, 8, .inl (aN hf)))]) (w1 := [(mo, .inr (8, [.int (nI 0), .ref ra, .ref ca, .ref ha, .int (nI kp), .ref ba, .int (nI hd), .ref wa]))]) hP hD [0] [1, 2, 3] rfl rfl (by decide) (by decide) hk1 hFc hP1 hD1
  have hP : va_P D vwCl [(ra, .inl (kr, 8, .inl (aN rf))), (ca, .inl (kc, 8, .inl (aN cf))), (ha, .inl (kh, 8, .inl (aN hf))), (mo, .inr (8, [.int (nI 0), .ref ra, .ref ca, .ref ha, .int (nI kp), .ref ba, .int (nI hd), .ref wa]))] H := hP
  have hD : va_D A [(ra, .inl (kr, 8, .inl (aN rf))), (ca, .inl (kc, 8, .inl (aN cf))), (ha, .inl (kh, 8, .inl (aN hf))), (mo, .inr (8, [.int (nI 0), .ref ra, .ref ca, .ref ha, .int (nI kp), .ref ba, .int (nI hd), .ref wa]))] := hD
  refine W.widen (k := 0) (n := 0) (Nat.le_of_ble_eq_true rfl) (Nat.le_of_ble_eq_true rfl) ?_
  subst e4
  have hr_j : rf j < 256 := hrf _ (by omega)
  refine z_beq (tgt := 12) hx hb dX6_field_7 (by decide) (fun c_7 => ?_) (fun c_7 => absurd c_7 (by decide))
  refine lv_aload_n hx hb dX6_field_12 rfl (lv_at hl 0 rfl) ?_
  refine va_get (D := D) (ci := 8) (v := .ref ra) (C := RX6) (T := TX6) (N := 8) hx hb hts nX6_field_inX6 hown hK hP 3 rfl rfl 1 (by decide) (hts (.fieldLink RX6 9 "GamefieldModel" "registers" "[I") (by decide +kernel)) (fun _ h9 => h9) rfl dX6_field_13 ?_
  refine lv_iload_n hx hb dX6_field_16 rfl (lv_at hl 1 rfl) ?_
  refine z_iald hx hb hK hP 0 0 rfl rfl (by omega) (by decide) dX6_field_17 ?_
  refine lv_istore_n (lv' := [(2, .int (nI (rf j))), (0, .ref mo), (1, .int (nI j))]) hx hb dX6_field_18 rfl hl (by decide) rfl (fun ls hl => ?_)
  refine lv_iload_n hx hb dX6_field_19 rfl (lv_at hl 0 rfl) ?_
  refine lv_iconst (v := nI 2) hx hb dX6_field_20 zki_2 ?_
  refine z_cge (tgt := 28) hx hb (by omega) (by omega) dX6_field_21 (by decide) (fun c_21 => ?_) (fun c_21 => ?_)
  · refine lv_iload_n hx hb dX6_field_28 rfl (lv_at hl 0 rfl) ?_
    refine lv_iconst (v := nI 4) hx hb dX6_field_29 zki_4 ?_
    refine z_cge (tgt := 37) hx hb (by omega) (by omega) dX6_field_30 (by decide) (fun c_30 => ?_) (fun c_30 => ?_)
    · refine lv_iload_n hx hb dX6_field_37 rfl (lv_at hl 0 rfl) ?_
      refine lv_bipush (v := nI 16) hx hb dX6_field_38 zkb_16 ?_
      refine z_cge (tgt := 48) hx hb (by omega) (by omega) dX6_field_40 (by decide) (fun c_40 => ?_) (fun c_40 => ?_)
      · refine lv_sipush (v := nI 256) hx hb dX6_field_48 zks_256 ?_
        have hP9 := hP.sub (ws' := [(mo, .inr (8, [.int (nI 0), .ref ra, .ref ca, .ref ha, .int (nI kp), .ref ba, .int (nI hd), .ref wa])), (ra, .inl (kr, 8, .inl (aN rf))), (ca, .inl (kc, 8, .inl (aN cf))), (ha, .inl (kh, 8, .inl (aN hf)))]) [3, 0, 1, 2] rfl
        have hD9 := hD.sub (ws' := [(mo, .inr (8, [.int (nI 0), .ref ra, .ref ca, .ref ha, .int (nI kp), .ref ba, .int (nI hd), .ref wa])), (ra, .inl (kr, 8, .inl (aN rf))), (ca, .inl (kc, 8, .inl (aN cf))), (ha, .inl (kh, 8, .inl (aN hf)))]) [3, 0, 1, 2] (by decide) rfl
        have hK9 := hK.sub (tys' := [(kr, .int), (kc, .int), (kh, .int)]) [0, 1, 2] rfl
        subst hAe
        refine W.widen (k := 0) (n := 0) (Nat.le_of_ble_eq_true rfl) (Nat.le_of_ble_eq_true rfl) ?_
        exact W.iret hx hb hr (fun t ht hW => ⟨⟨_, (), rfl, (by rw [fdo, if_neg (by omega), if_neg (by omega), if_neg (by omega)]), by rw [ht]; exact hP9, va_K.moved hW.alike hK9, hD9⟩, hS.F ht⟩) hS.2.2 dX6_field_51
      · refine lv_bipush (v := nI 16) hx hb dX6_field_43 zkb_16 ?_
        refine lv_goto (tgt := 51) hx hb dX6_field_45 (by decide) ?_
        have hP9 := hP.sub (ws' := [(mo, .inr (8, [.int (nI 0), .ref ra, .ref ca, .ref ha, .int (nI kp), .ref ba, .int (nI hd), .ref wa])), (ra, .inl (kr, 8, .inl (aN rf))), (ca, .inl (kc, 8, .inl (aN cf))), (ha, .inl (kh, 8, .inl (aN hf)))]) [3, 0, 1, 2] rfl
        have hD9 := hD.sub (ws' := [(mo, .inr (8, [.int (nI 0), .ref ra, .ref ca, .ref ha, .int (nI kp), .ref ba, .int (nI hd), .ref wa])), (ra, .inl (kr, 8, .inl (aN rf))), (ca, .inl (kc, 8, .inl (aN cf))), (ha, .inl (kh, 8, .inl (aN hf)))]) [3, 0, 1, 2] (by decide) rfl
        have hK9 := hK.sub (tys' := [(kr, .int), (kc, .int), (kh, .int)]) [0, 1, 2] rfl
        subst hAe
        refine W.widen (k := 0) (n := 0) (Nat.le_of_ble_eq_true rfl) (Nat.le_of_ble_eq_true rfl) ?_
        exact W.iret hx hb hr (fun t ht hW => ⟨⟨_, (), rfl, (by rw [fdo, if_neg (by omega), if_neg (by omega), if_pos (by omega)]), by rw [ht]; exact hP9, va_K.moved hW.alike hK9, hD9⟩, hS.F ht⟩) hS.2.2 dX6_field_51
    · refine lv_iconst (v := nI 4) hx hb dX6_field_33 zki_4 ?_
      refine lv_goto (tgt := 51) hx hb dX6_field_34 (by decide) ?_
      have hP9 := hP.sub (ws' := [(mo, .inr (8, [.int (nI 0), .ref ra, .ref ca, .ref ha, .int (nI kp), .ref ba, .int (nI hd), .ref wa])), (ra, .inl (kr, 8, .inl (aN rf))), (ca, .inl (kc, 8, .inl (aN cf))), (ha, .inl (kh, 8, .inl (aN hf)))]) [3, 0, 1, 2] rfl
      have hD9 := hD.sub (ws' := [(mo, .inr (8, [.int (nI 0), .ref ra, .ref ca, .ref ha, .int (nI kp), .ref ba, .int (nI hd), .ref wa])), (ra, .inl (kr, 8, .inl (aN rf))), (ca, .inl (kc, 8, .inl (aN cf))), (ha, .inl (kh, 8, .inl (aN hf)))]) [3, 0, 1, 2] (by decide) rfl
      have hK9 := hK.sub (tys' := [(kr, .int), (kc, .int), (kh, .int)]) [0, 1, 2] rfl
      subst hAe
      refine W.widen (k := 0) (n := 0) (Nat.le_of_ble_eq_true rfl) (Nat.le_of_ble_eq_true rfl) ?_
      exact W.iret hx hb hr (fun t ht hW => ⟨⟨_, (), rfl, (by rw [fdo, if_neg (by omega), if_pos (by omega)]), by rw [ht]; exact hP9, va_K.moved hW.alike hK9, hD9⟩, hS.F ht⟩) hS.2.2 dX6_field_51
  · refine lv_iconst (v := nI 2) hx hb dX6_field_24 zki_2 ?_
    refine lv_goto (tgt := 51) hx hb dX6_field_25 (by decide) ?_
    have hP9 := hP.sub (ws' := [(mo, .inr (8, [.int (nI 0), .ref ra, .ref ca, .ref ha, .int (nI kp), .ref ba, .int (nI hd), .ref wa])), (ra, .inl (kr, 8, .inl (aN rf))), (ca, .inl (kc, 8, .inl (aN cf))), (ha, .inl (kh, 8, .inl (aN hf)))]) [3, 0, 1, 2] rfl
    have hD9 := hD.sub (ws' := [(mo, .inr (8, [.int (nI 0), .ref ra, .ref ca, .ref ha, .int (nI kp), .ref ba, .int (nI hd), .ref wa])), (ra, .inl (kr, 8, .inl (aN rf))), (ca, .inl (kc, 8, .inl (aN cf))), (ha, .inl (kh, 8, .inl (aN hf)))]) [3, 0, 1, 2] (by decide) rfl
    have hK9 := hK.sub (tys' := [(kr, .int), (kc, .int), (kh, .int)]) [0, 1, 2] rfl
    subst hAe
    refine W.widen (k := 0) (n := 0) (Nat.le_of_ble_eq_true rfl) (Nat.le_of_ble_eq_true rfl) ?_
    exact W.iret hx hb hr (fun t ht hW => ⟨⟨_, (), rfl, (by rw [fdo, if_pos (by omega)]), by rw [ht]; exact hP9, va_K.moved hW.alike hK9, hD9⟩, hS.F ht⟩) hS.2.2 dX6_field_51
abbrev rm_c_X6_field_no : Room := { frames := 2, cells := 0, slots := 0, locals := 45 }
abbrev q_c_X6_field_no (D : va_G) (sz : Nat) (mo : Nat) (ra : Nat) (ca : Nat) (ha : Nat) (ba : Nat) (wa : Nat) (kp : Nat) (hd : Nat) (kr : ClassId) (kc : ClassId) (kh : ClassId) (th : Nat) (rf : Nat → Nat) (cf : Nat → Nat) (hf : Nat → Nat) (x0 : Int32) : Array Value → State → Outcome → State → Prop := va_Qi (fun r (_ : Unit) => r = (nI 0)) (fun (_ : Unit) t => va_P D vwCl [(mo, .inr (8, [.int (nI 1), .ref ra, .ref ca, .ref ha, .int (nI kp), .ref ba, .int (nI hd), .ref wa])), (ra, .inl (kr, 8, .inl (aN rf))), (ca, .inl (kc, 8, .inl (aN cf))), (ha, .inl (kh, 8, .inl (aN hf)))] t.heap ∧ va_K D vwCl [(kr, .int), (kc, .int), (kh, .int)] t ∧ va_D (va_A [(mo, .inr (8, [.int (nI th), .ref ra, .ref ca, .ref ha, .int (nI kp), .ref ba, .int (nI hd), .ref wa])), (ra, .inl (kr, 8, .inl (aN rf))), (ca, .inl (kc, 8, .inl (aN cf))), (ha, .inl (kh, 8, .inl (aN hf)))] sz) [(mo, .inr (8, [.int (nI 1), .ref ra, .ref ca, .ref ha, .int (nI kp), .ref ba, .int (nI hd), .ref wa])), (ra, .inl (kr, 8, .inl (aN rf))), (ca, .inl (kc, 8, .inl (aN cf))), (ha, .inl (kh, 8, .inl (aN hf)))]) (va_A [(mo, .inr (8, [.int (nI th), .ref ra, .ref ca, .ref ha, .int (nI kp), .ref ba, .int (nI hd), .ref wa])), (ra, .inl (kr, 8, .inl (aN rf))), (ca, .inl (kc, 8, .inl (aN cf))), (ha, .inl (kh, 8, .inl (aN hf)))] sz)
set_option maxHeartbeats 4000000 in
set_option maxRecDepth 100000 in
theorem c_X6_field_no (l : Launch) (D : va_G) (sz : Nat) (mo : Nat) (ra : Nat) (ca : Nat) (ha : Nat) (ba : Nat) (wa : Nat) (kp : Nat) (hd : Nat) (kr : ClassId) (kc : ClassId) (kh : ClassId) (th : Nat) (rf : Nat → Nat) (cf : Nat → Nat) (hf : Nat → Nat) (x0 : Int32) (hrf : ∀ k, k < 8 → rf k < 256) (hkp : kp ≤ 8) (hno : inN 8 x0 = false) : Met l yX6_field wsX6_field rm_c_X6_field_no (va_Pc [.ref mo, .int x0] (fun U => U.heap.size = sz ∧ va_P D vwCl [(mo, .inr (8, [.int (nI th), .ref ra, .ref ca, .ref ha, .int (nI kp), .ref ba, .int (nI hd), .ref wa])), (ra, .inl (kr, 8, .inl (aN rf))), (ca, .inl (kc, 8, .inl (aN cf))), (ha, .inl (kh, 8, .inl (aN hf)))] U.heap ∧ va_K D vwCl [(kr, .int), (kc, .int), (kh, .int)] U ∧ va_D (fun _ => True) [(mo, .inr (8, [.int (nI th), .ref ra, .ref ca, .ref ha, .int (nI kp), .ref ba, .int (nI hd), .ref wa])), (ra, .inl (kr, 8, .inl (aN rf))), (ca, .inl (kc, 8, .inl (aN cf))), (ha, .inl (kh, 8, .inl (aN hf)))])) (q_c_X6_field_no D sz mo ra ca ha ba wa kp hd kr kc kh th rf cf hf x0) 0 0 (va_A [(mo, .inr (8, [.int (nI th), .ref ra, .ref ca, .ref ha, .int (nI kp), .ref ba, .int (nI hd), .ref wa])), (ra, .inl (kr, 8, .inl (aN rf))), (ca, .inl (kc, 8, .inl (aN cf))), (ha, .inl (kh, 8, .inl (aN hf)))] sz) := by
  refine Met.ofW (cc := cX6_field) (maxL := 3) (ret := (some .int)) (by decide) rfl ?_
  intro p e s m args below meth c s₁ B hml hv
  obtain ⟨hargs, hsz, hP, hK, hD0⟩ := hv
  have hx := B.exec
  have hb := B.bytes
  have hr := B.returns
  have hts := atoms_spec (ws := wsX6_field) B.pre
  have hown : s.vm.findClass RX6 = some m.cls := findClass_of_methodNamed B.named
  have hlocks := B.notSynchronized
  subst hsz
  have hD := hD0.self (sz := s.heap.size)
  generalize hAe : va_A [(mo, .inr (8, [.int (nI th), .ref ra, .ref ca, .ref ha, .int (nI kp), .ref ba, .int (nI hd), .ref wa])), (ra, .inl (kr, 8, .inl (aN rf))), (ca, .inl (kc, 8, .inl (aN cf))), (ha, .inl (kh, 8, .inl (aN hf)))] s.heap.size = A at hD ⊢
  have hA : ∀ q : Nat, s.heap.size ≤ q → A q := fun q h => by rw [← hAe]; exact Or.inr h
  have hS : va_S A s.heap s.heap [] := va_S.rf
  have hl := lv_entry ([.ref mo, .int x0]) (n := 3) (Nat.le_of_ble_eq_true rfl)
  refine W.eq (g2 := F0 m 0 (lg_sl ([.ref mo, .int x0]) ++ List.replicate (3 - (lg_sl ([.ref mo, .int x0])).length) Slot.unset).toArray []) (by rw [hargs]; exact lg_entry_eq _ _ _) ?_
  generalize (lg_sl ([.ref mo, .int x0]) ++ List.replicate (3 - (lg_sl ([.ref mo, .int x0])).length) Slot.unset).toArray = ls at hl ⊢
  have hl : lv_has ls 3 [(0, .ref mo), (1, .int x0)] := hl
  refine lv_aload_n hx hb dX6_field_0 rfl (lv_at hl 0 rfl) ?_
  refine lv_iload_n hx hb dX6_field_1 rfl (lv_at hl 1 rfl) ?_
  refine lv_iconst (v := nI 0) hx hb dX6_field_2 zki_0 ?_
  refine lv_iconst (v := nI 0) hx hb dX6_field_3 zki_0 ?_
  have hPc := hP.sub (ws' := [(mo, .inr (8, [.int (nI th), .ref ra, .ref ca, .ref ha, .int (nI kp), .ref ba, .int (nI hd), .ref wa]))]) [0] rfl
  have hDc := hD.sub (ws' := [(mo, .inr (8, [.int (nI th), .ref ra, .ref ca, .ref ha, .int (nI kp), .ref ba, .int (nI hd), .ref wa]))]) [0] (by decide) rfl
  have hKc := hK.sub (tys' := []) [] rfl
  have hFc := va_free (wc := [(mo, .inr (8, [.int (nI th), .ref ra, .ref ca, .ref ha, .int (nI kp), .ref ba, .int (nI hd), .ref wa]))]) hD hS hA [0] rfl
  refine va_calli (va_runV (As := [.int x0, .int (nI 0), .int (nI 0)]) (rest := []) ⟨hx, hb, hml, hown, hts⟩ (c_X6_areNone_no l D s.heap.size mo ra ca ha ba wa kp hd th x0 (nI 0) (nI 0) (by rw [ok3_1]; exact hno)) (cwV 3 hts gX6_field_X6_areNone rfl rfl rfl (by decide +kernel) ⟨Nat.le_of_ble_eq_true rfl, Nat.le_of_ble_eq_true rfl⟩) ⟨(z_fb2), va_recv hK hP (ci := 8) (q0 := 0) rfl rfl, fun U hU hW => ⟨rfl, by rw [hU], by rw [hU]; exact hPc, va_K.moved hW.alike hKc, hDc.weaken (fun _ _ _ _ => trivial)⟩⟩ rfl rfl hl.1 rfl (lv_room (Nat.le_of_ble_eq_true rfl)) dX6_field_4 ⟨Nat.le_of_ble_eq_true rfl, Nat.le_of_ble_eq_true rfl⟩) hS (fun q _ h => hFc q h) hFc (fun r4 u4 t H locs ht hvm e4 hB hz1 hk1 hS => ?_)
  obtain ⟨hP1, hK1, hD1⟩ := hB
  rw [ht] at hP1
  obtain ⟨hP, hD⟩ := va_join (wr := [(ra, .inl (kr, 8, .inl (aN rf))), (ca, .inl (kc, 8, .inl (aN cf))), (ha, .inl (kh, 8, .inl (aN hf)))]) (w1 := [(mo, .inr (8, [.int (nI 1), .ref ra, .ref ca, .ref ha, .int (nI kp), .ref ba, .int (nI hd), .ref wa]))]) hP hD [0] [1, 2, 3] rfl rfl (by decide) (by decide) hk1 hFc hP1 hD1
  have hP : va_P D vwCl [(ra, .inl (kr, 8, .inl (aN rf))), (ca, .inl (kc, 8, .inl (aN cf))), (ha, .inl (kh, 8, .inl (aN hf))), (mo, .inr (8, [.int (nI 1), .ref ra, .ref ca, .ref ha, .int (nI kp), .ref ba, .int (nI hd), .ref wa]))] H := hP
  have hD : va_D A [(ra, .inl (kr, 8, .inl (aN rf))), (ca, .inl (kc, 8, .inl (aN cf))), (ha, .inl (kh, 8, .inl (aN hf))), (mo, .inr (8, [.int (nI 1), .ref ra, .ref ca, .ref ha, .int (nI kp), .ref ba, .int (nI hd), .ref wa]))] := hD
  refine W.widen (k := 0) (n := 0) (Nat.le_of_ble_eq_true rfl) (Nat.le_of_ble_eq_true rfl) ?_
  subst e4
  refine z_beq (tgt := 12) hx hb dX6_field_7 (by decide) (fun c_7 => absurd c_7 (by decide)) (fun c_7 => ?_)
  refine lv_iconst (v := nI 0) hx hb dX6_field_10 zki_0 ?_
  have hP9 := hP.sub (ws' := [(mo, .inr (8, [.int (nI 1), .ref ra, .ref ca, .ref ha, .int (nI kp), .ref ba, .int (nI hd), .ref wa])), (ra, .inl (kr, 8, .inl (aN rf))), (ca, .inl (kc, 8, .inl (aN cf))), (ha, .inl (kh, 8, .inl (aN hf)))]) [3, 0, 1, 2] rfl
  have hD9 := hD.sub (ws' := [(mo, .inr (8, [.int (nI 1), .ref ra, .ref ca, .ref ha, .int (nI kp), .ref ba, .int (nI hd), .ref wa])), (ra, .inl (kr, 8, .inl (aN rf))), (ca, .inl (kc, 8, .inl (aN cf))), (ha, .inl (kh, 8, .inl (aN hf)))]) [3, 0, 1, 2] (by decide) rfl
  have hK9 := hK.sub (tys' := [(kr, .int), (kc, .int), (kh, .int)]) [0, 1, 2] rfl
  subst hAe
  refine W.widen (k := 0) (n := 0) (Nat.le_of_ble_eq_true rfl) (Nat.le_of_ble_eq_true rfl) ?_
  exact W.iret hx hb hr (fun t ht hW => ⟨⟨_, (), rfl, (rfl), by rw [ht]; exact hP9, va_K.moved hW.alike hK9, hD9⟩, hS.F ht⟩) hS.2.2 dX6_field_11
abbrev rm_c_X6_order_ok : Room := { frames := 4, cells := 0, slots := 0, locals := 116 }
abbrev q_c_X6_order_ok (D : va_G) (sz : Nat) (mo : Nat) (ra : Nat) (ca : Nat) (ha : Nat) (ba : Nat) (wa : Nat) (kp : Nat) (hd : Nat) (kr : ClassId) (kc : ClassId) (kh : ClassId) (th : Nat) (rf : Nat → Nat) (cf : Nat → Nat) (hf : Nat → Nat) (j : Nat) : Array Value → State → Outcome → State → Prop := va_Qi (fun r (_ : Unit) => r = (nI (od (rf j)))) (fun (_ : Unit) t => va_P D vwCl [(mo, .inr (8, [.int (nI 0), .ref ra, .ref ca, .ref ha, .int (nI kp), .ref ba, .int (nI hd), .ref wa])), (ra, .inl (kr, 8, .inl (aN rf))), (ca, .inl (kc, 8, .inl (aN cf))), (ha, .inl (kh, 8, .inl (aN hf)))] t.heap ∧ va_K D vwCl [(kr, .int), (kc, .int), (kh, .int)] t ∧ va_D (va_A [(mo, .inr (8, [.int (nI th), .ref ra, .ref ca, .ref ha, .int (nI kp), .ref ba, .int (nI hd), .ref wa])), (ra, .inl (kr, 8, .inl (aN rf))), (ca, .inl (kc, 8, .inl (aN cf))), (ha, .inl (kh, 8, .inl (aN hf)))] sz) [(mo, .inr (8, [.int (nI 0), .ref ra, .ref ca, .ref ha, .int (nI kp), .ref ba, .int (nI hd), .ref wa])), (ra, .inl (kr, 8, .inl (aN rf))), (ca, .inl (kc, 8, .inl (aN cf))), (ha, .inl (kh, 8, .inl (aN hf)))]) (va_A [(mo, .inr (8, [.int (nI th), .ref ra, .ref ca, .ref ha, .int (nI kp), .ref ba, .int (nI hd), .ref wa])), (ra, .inl (kr, 8, .inl (aN rf))), (ca, .inl (kc, 8, .inl (aN cf))), (ha, .inl (kh, 8, .inl (aN hf)))] sz)
set_option maxHeartbeats 4000000 in
set_option maxRecDepth 100000 in
theorem c_X6_order_ok (l : Launch) (D : va_G) (sz : Nat) (mo : Nat) (ra : Nat) (ca : Nat) (ha : Nat) (ba : Nat) (wa : Nat) (kp : Nat) (hd : Nat) (kr : ClassId) (kc : ClassId) (kh : ClassId) (th : Nat) (rf : Nat → Nat) (cf : Nat → Nat) (hf : Nat → Nat) (j : Nat) (hrf : ∀ k, k < 8 → rf k < 256) (hkp : kp ≤ 8) (hj : j < 8) (hz : 0 < rf j) : Met l yX6_order wsX6_order rm_c_X6_order_ok (va_Pc [.ref mo, .int (nI j)] (fun U => U.heap.size = sz ∧ va_P D vwCl [(mo, .inr (8, [.int (nI th), .ref ra, .ref ca, .ref ha, .int (nI kp), .ref ba, .int (nI hd), .ref wa])), (ra, .inl (kr, 8, .inl (aN rf))), (ca, .inl (kc, 8, .inl (aN cf))), (ha, .inl (kh, 8, .inl (aN hf)))] U.heap ∧ va_K D vwCl [(kr, .int), (kc, .int), (kh, .int)] U ∧ va_D (fun _ => True) [(mo, .inr (8, [.int (nI th), .ref ra, .ref ca, .ref ha, .int (nI kp), .ref ba, .int (nI hd), .ref wa])), (ra, .inl (kr, 8, .inl (aN rf))), (ca, .inl (kc, 8, .inl (aN cf))), (ha, .inl (kh, 8, .inl (aN hf)))])) (q_c_X6_order_ok D sz mo ra ca ha ba wa kp hd kr kc kh th rf cf hf j) 0 0 (va_A [(mo, .inr (8, [.int (nI th), .ref ra, .ref ca, .ref ha, .int (nI kp), .ref ba, .int (nI hd), .ref wa])), (ra, .inl (kr, 8, .inl (aN rf))), (ca, .inl (kc, 8, .inl (aN cf))), (ha, .inl (kh, 8, .inl (aN hf)))] sz) := by
  refine Met.ofW (cc := cX6_order) (maxL := 4) (ret := (some .int)) (by decide) rfl ?_
  intro p e s m args below meth c s₁ B hml hv
  obtain ⟨hargs, hsz, hP, hK, hD0⟩ := hv
  have hx := B.exec
  have hb := B.bytes
  have hr := B.returns
  have hts := atoms_spec (ws := wsX6_order) B.pre
  have hown : s.vm.findClass RX6 = some m.cls := findClass_of_methodNamed B.named
  have hlocks := B.notSynchronized
  subst hsz
  have hD := hD0.self (sz := s.heap.size)
  generalize hAe : va_A [(mo, .inr (8, [.int (nI th), .ref ra, .ref ca, .ref ha, .int (nI kp), .ref ba, .int (nI hd), .ref wa])), (ra, .inl (kr, 8, .inl (aN rf))), (ca, .inl (kc, 8, .inl (aN cf))), (ha, .inl (kh, 8, .inl (aN hf)))] s.heap.size = A at hD ⊢
  have hA : ∀ q : Nat, s.heap.size ≤ q → A q := fun q h => by rw [← hAe]; exact Or.inr h
  have hS : va_S A s.heap s.heap [] := va_S.rf
  have hl := lv_entry ([.ref mo, .int (nI j)]) (n := 4) (Nat.le_of_ble_eq_true rfl)
  refine W.eq (g2 := F0 m 0 (lg_sl ([.ref mo, .int (nI j)]) ++ List.replicate (4 - (lg_sl ([.ref mo, .int (nI j)])).length) Slot.unset).toArray []) (by rw [hargs]; exact lg_entry_eq _ _ _) ?_
  generalize (lg_sl ([.ref mo, .int (nI j)]) ++ List.replicate (4 - (lg_sl ([.ref mo, .int (nI j)])).length) Slot.unset).toArray = ls at hl ⊢
  have hl : lv_has ls 4 [(0, .ref mo), (1, .int (nI j))] := hl
  refine lv_aload_n hx hb dX6_order_0 rfl (lv_at hl 0 rfl) ?_
  refine lv_iload_n hx hb dX6_order_1 rfl (lv_at hl 1 rfl) ?_
  refine lv_iconst (v := nI 0) hx hb dX6_order_2 zki_0 ?_
  refine lv_iconst (v := nI 0) hx hb dX6_order_3 zki_0 ?_
  have hPc := hP.sub (ws' := [(mo, .inr (8, [.int (nI th), .ref ra, .ref ca, .ref ha, .int (nI kp), .ref ba, .int (nI hd), .ref wa]))]) [0] rfl
  have hDc := hD.sub (ws' := [(mo, .inr (8, [.int (nI th), .ref ra, .ref ca, .ref ha, .int (nI kp), .ref ba, .int (nI hd), .ref wa]))]) [0] (by decide) rfl
  have hKc := hK.sub (tys' := []) [] rfl
  have hFc := va_free (wc := [(mo, .inr (8, [.int (nI th), .ref ra, .ref ca, .ref ha, .int (nI kp), .ref ba, .int (nI hd), .ref wa]))]) hD hS hA [0] rfl
  refine va_calli (va_runV (As := [.int (nI j), .int (nI 0), .int (nI 0)]) (rest := []) ⟨hx, hb, hml, hown, hts⟩ (c_X6_areNone_ok l D s.heap.size mo ra ca ha ba wa kp hd th j 0 0 (by omega) (by omega) (by omega)) (cwV 3 hts gX6_order_X6_areNone rfl rfl rfl (by decide +kernel) ⟨Nat.le_of_ble_eq_true rfl, Nat.le_of_ble_eq_true rfl⟩) ⟨(z_fb2), va_recv hK hP (ci := 8) (q0 := 0) rfl rfl, fun U hU hW => ⟨rfl, by rw [hU], by rw [hU]; exact hPc, va_K.moved hW.alike hKc, hDc.weaken (fun _ _ _ _ => trivial)⟩⟩ rfl rfl hl.1 rfl (lv_room (Nat.le_of_ble_eq_true rfl)) dX6_order_4 ⟨Nat.le_of_ble_eq_true rfl, Nat.le_of_ble_eq_true rfl⟩) hS (fun q _ h => hFc q h) hFc (fun r4 u4 t H locs ht hvm e4 hB hz1 hk1 hS => ?_)
  obtain ⟨hP1, hK1, hD1⟩ := hB
  rw [ht] at hP1
  obtain ⟨hP, hD⟩ := va_join (wr := [(ra, .inl (kr, 8, .inl (aN rf))), (ca, .inl (kc, 8, .inl (aN cf))), (ha, .inl (kh, 8, .inl (aN hf)))]) (w1 := [(mo, .inr (8, [.int (nI 0), .ref ra, .ref ca, .ref ha, .int (nI kp), .ref ba, .int (nI hd), .ref wa]))]) hP hD [0] [1, 2, 3] rfl rfl (by decide) (by decide) hk1 hFc hP1 hD1
  have hP : va_P D vwCl [(ra, .inl (kr, 8, .inl (aN rf))), (ca, .inl (kc, 8, .inl (aN cf))), (ha, .inl (kh, 8, .inl (aN hf))), (mo, .inr (8, [.int (nI 0), .ref ra, .ref ca, .ref ha, .int (nI kp), .ref ba, .int (nI hd), .ref wa]))] H := hP
  have hD : va_D A [(ra, .inl (kr, 8, .inl (aN rf))), (ca, .inl (kc, 8, .inl (aN cf))), (ha, .inl (kh, 8, .inl (aN hf))), (mo, .inr (8, [.int (nI 0), .ref ra, .ref ca, .ref ha, .int (nI kp), .ref ba, .int (nI hd), .ref wa]))] := hD
  refine W.widen (k := 0) (n := 0) (Nat.le_of_ble_eq_true rfl) (Nat.le_of_ble_eq_true rfl) ?_
  subst e4
  have hr_j : rf j < 256 := hrf _ (by omega)
  refine z_bne (tgt := 32) hx hb dX6_order_7 (by decide) (fun c_7 => absurd c_7 (by decide)) (fun c_7 => ?_)
  refine lv_aload_n hx hb dX6_order_10 rfl (lv_at hl 0 rfl) ?_
  refine lv_aload_n hx hb dX6_order_11 rfl (lv_at hl 0 rfl) ?_
  refine va_get (D := D) (ci := 8) (v := .ref ra) (C := RX6) (T := TX6) (N := 8) hx hb hts nX6_order_inX6 hown hK hP 3 rfl rfl 1 (by decide) (hts (.fieldLink RX6 9 "GamefieldModel" "registers" "[I") (by decide +kernel)) (fun _ h9 => h9) rfl dX6_order_12 ?_
  refine lv_iload_n hx hb dX6_order_15 rfl (lv_at hl 1 rfl) ?_
  refine z_iald hx hb hK hP 0 0 rfl rfl (by omega) (by decide) dX6_order_16 ?_
  refine z_fne (tgt := 24) hx hb (by omega) dX6_order_17 (by decide) (fun c_17 => ?_) (fun c_17 => absurd c_17 (by omega))
  refine lv_iconst (v := nI 0) hx hb dX6_order_24 zki_0 ?_
  refine lv_iconst (v := nI 2) hx hb dX6_order_25 zki_2 ?_
  have hPc := hP.sub (ws' := [(mo, .inr (8, [.int (nI 0), .ref ra, .ref ca, .ref ha, .int (nI kp), .ref ba, .int (nI hd), .ref wa]))]) [3] rfl
  have hDc := hD.sub (ws' := [(mo, .inr (8, [.int (nI 0), .ref ra, .ref ca, .ref ha, .int (nI kp), .ref ba, .int (nI hd), .ref wa]))]) [3] (by decide) rfl
  have hKc := hK.sub (tys' := []) [] rfl
  have hFc := va_free (wc := [(mo, .inr (8, [.int (nI 0), .ref ra, .ref ca, .ref ha, .int (nI kp), .ref ba, .int (nI hd), .ref wa]))]) hD hS hA [3] rfl
  refine va_calli (va_runV (As := [.int (nI 0), .int (nI 2)]) (rest := []) ⟨hx, hb, hml, hown, hts⟩ (c_X6_fails_false l D H.size mo ra ca ha ba wa kp hd 2 (by omega) (by omega)) (cwV 2 hts gX6_order_X6_fails rfl rfl rfl (by decide +kernel) ⟨Nat.le_of_ble_eq_true rfl, Nat.le_of_ble_eq_true rfl⟩) ⟨(z_fb2), va_recv hK hP (ci := 8) (q0 := 3) rfl rfl, fun U hU hW => ⟨rfl, by rw [hU], by rw [hU]; exact hPc, va_K.moved hW.alike hKc, hDc.weaken (fun _ _ _ _ => trivial)⟩⟩ rfl rfl hl.1 rfl (lv_room (Nat.le_of_ble_eq_true rfl)) dX6_order_26 ⟨Nat.le_of_ble_eq_true rfl, Nat.le_of_ble_eq_true rfl⟩) hS (fun q _ h => hFc q h) hFc (fun r26 u26 t H locs ht hvm e26 hB hz1 hk1 hS => ?_)
  obtain ⟨hP1, hK1, hD1⟩ := hB
  rw [ht] at hP1
  obtain ⟨hP, hD⟩ := va_join (wr := [(ra, .inl (kr, 8, .inl (aN rf))), (ca, .inl (kc, 8, .inl (aN cf))), (ha, .inl (kh, 8, .inl (aN hf)))]) (w1 := [(mo, .inr (8, [.int (nI 0), .ref ra, .ref ca, .ref ha, .int (nI kp), .ref ba, .int (nI hd), .ref wa]))]) hP hD [3] [0, 1, 2] rfl rfl (by decide) (by decide) hk1 hFc hP1 hD1
  have hP : va_P D vwCl [(ra, .inl (kr, 8, .inl (aN rf))), (ca, .inl (kc, 8, .inl (aN cf))), (ha, .inl (kh, 8, .inl (aN hf))), (mo, .inr (8, [.int (nI 0), .ref ra, .ref ca, .ref ha, .int (nI kp), .ref ba, .int (nI hd), .ref wa]))] H := hP
  have hD : va_D A [(ra, .inl (kr, 8, .inl (aN rf))), (ca, .inl (kc, 8, .inl (aN cf))), (ha, .inl (kh, 8, .inl (aN hf))), (mo, .inr (8, [.int (nI 0), .ref ra, .ref ca, .ref ha, .int (nI kp), .ref ba, .int (nI hd), .ref wa]))] := hD
  refine W.widen (k := 0) (n := 0) (Nat.le_of_ble_eq_true rfl) (Nat.le_of_ble_eq_true rfl) ?_
  subst e26
  refine z_beq (tgt := 34) hx hb dX6_order_29 (by decide) (fun c_29 => ?_) (fun c_29 => absurd c_29 (by decide))
  refine lv_iconst (v := nI 1) hx hb dX6_order_34 zki_1 ?_
  refine lv_istore_n (lv' := [(2, .int (nI 1)), (0, .ref mo), (1, .int (nI j))]) hx hb dX6_order_35 rfl hl (by decide) rfl (fun ls hl => ?_)
  refine lv_aload_n hx hb dX6_order_36 rfl (lv_at hl 1 rfl) ?_
  refine va_get (D := D) (ci := 8) (v := .ref ra) (C := RX6) (T := TX6) (N := 8) hx hb hts nX6_order_inX6 hown hK hP 3 rfl rfl 1 (by decide) (hts (.fieldLink RX6 9 "GamefieldModel" "registers" "[I") (by decide +kernel)) (fun _ h9 => h9) rfl dX6_order_37 ?_
  refine lv_iload_n hx hb dX6_order_40 rfl (lv_at hl 2 rfl) ?_
  refine z_iald hx hb hK hP 0 0 rfl rfl (by omega) (by decide) dX6_order_41 ?_
  refine lv_istore_n (lv' := [(3, .int (nI (rf j))), (2, .int (nI 1)), (0, .ref mo), (1, .int (nI j))]) hx hb dX6_order_42 rfl hl (by decide) rfl (fun ls hl => ?_)
  have cut_43 : ∀ (nn9 : Nat) (n9 : Nat) (xv : Nat) (d : Nat) (hd5 : d + n9 = 255) (hxv : xv < 256) (hinv : odf d xv (rf j) n9 = od (rf j)) (hos : osf d xv (rf j) = true) (hn9 : d < nn9) (H : Heap) (locs : List Loc) (hP : va_P D vwCl [(mo, .inr (8, [.int (nI 0), .ref ra, .ref ca, .ref ha, .int (nI kp), .ref ba, .int (nI hd), .ref wa])), (ra, .inl (kr, 8, .inl (aN rf))), (ca, .inl (kc, 8, .inl (aN cf))), (ha, .inl (kh, 8, .inl (aN hf)))] H) (hD : va_D A [(mo, .inr (8, [.int (nI 0), .ref ra, .ref ca, .ref ha, .int (nI kp), .ref ba, .int (nI hd), .ref wa])), (ra, .inl (kr, 8, .inl (aN rf))), (ca, .inl (kc, 8, .inl (aN cf))), (ha, .inl (kh, 8, .inl (aN hf)))]) (hS : va_S A s.heap H locs) (ls : Array Slot) (hl : lv_has ls 4 [(0, .ref mo), (1, .int (nI j)), (2, .int (nI n9)), (3, .int (nI xv))]), W p l e (headSpec wsX6_order rm_c_X6_order_ok).room s m args below meth c H locs 0 0 (MQ below (q_c_X6_order_ok D s.heap.size mo ra ca ha ba wa kp hd kr kc kh th rf cf hf j) args s 0 0 A) (F0 m 43 ls []) := by
    intro nn9
    induction nn9 with
    | zero => intro n9 xv d hd5 hxv hinv hos hn9; exact absurd hn9 (Nat.not_lt_zero _)
    | succ nn9 ih_43 =>
      intro n9 xv d hd5 hxv hinv hos hn9 H locs hP hD hS ls hl
      refine lv_iload_n hx hb dX6_order_43 rfl (lv_at hl 3 rfl) ?_
      refine lv_iconst (v := nI 1) hx hb dX6_order_44 zki_1 ?_
      refine z_ceq (tgt := 65) hx hb (by omega) (by omega) dX6_order_45 (by decide) (fun c_45 => ?_) (fun c_45 => ?_)
      · refine lv_iload_n hx hb dX6_order_65 rfl (lv_at hl 2 rfl) ?_
        have hP9 := hP.sub (ws' := [(mo, .inr (8, [.int (nI 0), .ref ra, .ref ca, .ref ha, .int (nI kp), .ref ba, .int (nI hd), .ref wa])), (ra, .inl (kr, 8, .inl (aN rf))), (ca, .inl (kc, 8, .inl (aN cf))), (ha, .inl (kh, 8, .inl (aN hf)))]) [0, 1, 2, 3] rfl
        have hD9 := hD.sub (ws' := [(mo, .inr (8, [.int (nI 0), .ref ra, .ref ca, .ref ha, .int (nI kp), .ref ba, .int (nI hd), .ref wa])), (ra, .inl (kr, 8, .inl (aN rf))), (ca, .inl (kc, 8, .inl (aN cf))), (ha, .inl (kh, 8, .inl (aN hf)))]) [0, 1, 2, 3] (by decide) rfl
        have hK9 := hK.sub (tys' := [(kr, .int), (kc, .int), (kh, .int)]) [0, 1, 2] rfl
        subst hAe
        refine W.widen (k := 0) (n := 0) (Nat.le_of_ble_eq_true rfl) (Nat.le_of_ble_eq_true rfl) ?_
        exact W.iret hx hb hr (fun t ht hW => ⟨⟨_, (), rfl, (by subst c_45; rw [odf_1] at hinv; exact congrArg nI hinv), by rw [ht]; exact hP9, va_K.moved hW.alike hK9, hD9⟩, hS.F ht⟩) hS.2.2 dX6_order_66
      · obtain ⟨d2, rfl⟩ : ∃ z, d = z + 1 := by
          cases d with
          | zero => exact absurd (osf_0 hos) c_45
          | succ z => exact ⟨z, rfl⟩
        rw [odf_s c_45] at hinv
        have hos2 := osf_s hos c_45
        have hr48 : rf j < 256 := hrf _ (by omega)
        refine lv_iload_n hx hb dX6_order_48 rfl (lv_at hl 3 rfl) ?_
        refine lv_aload_n hx hb dX6_order_49 rfl (lv_at hl 0 rfl) ?_
        refine va_get (D := D) (ci := 8) (v := .ref ra) (C := RX6) (T := TX6) (N := 8) hx hb hts nX6_order_inX6 hown hK hP 0 rfl rfl 1 (by decide) (hts (.fieldLink RX6 9 "GamefieldModel" "registers" "[I") (by decide +kernel)) (fun _ h9 => h9) rfl dX6_order_50 ?_
        refine lv_iload_n hx hb dX6_order_53 rfl (lv_at hl 1 rfl) ?_
        refine z_iald hx hb hK hP 1 0 rfl rfl (by omega) (by decide) dX6_order_54 ?_
        refine z_ci (va_runS (As := [.int (nI xv), .int (nI (rf j))]) (rest := []) ⟨hx, hb, hml, hown, hts⟩ (c_X6_productOf_256 l D xv (rf j) (by omega) (by omega)) (va_cwS 2 hts gX6_order_X6_productOf rfl rfl rfl (by decide +kernel) ⟨Nat.le_of_ble_eq_true rfl, Nat.le_of_ble_eq_true rfl⟩) ⟨z_fb0, fun U hU hW => ⟨rfl, trivial⟩⟩ rfl rfl hl.1 rfl (lv_room (Nat.le_of_ble_eq_true rfl)) dX6_order_55 ⟨Nat.le_of_ble_eq_true rfl, Nat.le_of_ble_eq_true rfl⟩) (fun r55 e55 => ?_)
        subst e55
        have hn55 : np xv (rf j) < 256 := np_lt (by omega) (by omega)
        refine lv_istore_n (lv' := [(3, .int (nI (np xv (rf j)))), (0, .ref mo), (1, .int (nI j)), (2, .int (nI n9))]) hx hb dX6_order_58 rfl hl (by decide) rfl (fun ls hl => ?_)
        refine lv_iinc (v := (nI (n9 + 1))) (lv' := [(2, .int (nI (n9 + 1))), (3, .int (nI (np xv (rf j)))), (0, .ref mo), (1, .int (nI j))]) hx hb dX6_order_59 hl (k := 3) rfl (z_inc n9 1) (by decide) rfl (fun ls hl => ?_)
        refine lv_goto (tgt := 43) hx hb dX6_order_62 (by decide) ?_
        exact ih_43 (n9 + 1) (np xv (rf j)) d2 (by omega) (by omega) (hinv) (hos2) (by omega) H locs hP hD hS ls (lv_sub hl [2, 3, 0, 1] rfl)
  exact cut_43 (254 + 1) 1 (rf j) 254 (by omega) (by omega) (rfl) (od_ok hz (hrf _ (by omega))) (Nat.lt_succ_self _) H locs (hP.sub [3, 0, 1, 2] rfl) (hD.sub [3, 0, 1, 2] (by decide) rfl) hS ls (lv_sub hl [2, 3, 1, 0] rfl)
abbrev rm_c_X6_order_no : Room := { frames := 2, cells := 0, slots := 0, locals := 45 }
abbrev q_c_X6_order_no (D : va_G) (sz : Nat) (mo : Nat) (ra : Nat) (ca : Nat) (ha : Nat) (ba : Nat) (wa : Nat) (kp : Nat) (hd : Nat) (kr : ClassId) (kc : ClassId) (kh : ClassId) (th : Nat) (rf : Nat → Nat) (cf : Nat → Nat) (hf : Nat → Nat) (x0 : Int32) : Array Value → State → Outcome → State → Prop := va_Qi (fun r (_ : Unit) => r = (nI 0)) (fun (_ : Unit) t => va_P D vwCl [(mo, .inr (8, [.int (nI 1), .ref ra, .ref ca, .ref ha, .int (nI kp), .ref ba, .int (nI hd), .ref wa])), (ra, .inl (kr, 8, .inl (aN rf))), (ca, .inl (kc, 8, .inl (aN cf))), (ha, .inl (kh, 8, .inl (aN hf)))] t.heap ∧ va_K D vwCl [(kr, .int), (kc, .int), (kh, .int)] t ∧ va_D (va_A [(mo, .inr (8, [.int (nI th), .ref ra, .ref ca, .ref ha, .int (nI kp), .ref ba, .int (nI hd), .ref wa])), (ra, .inl (kr, 8, .inl (aN rf))), (ca, .inl (kc, 8, .inl (aN cf))), (ha, .inl (kh, 8, .inl (aN hf)))] sz) [(mo, .inr (8, [.int (nI 1), .ref ra, .ref ca, .ref ha, .int (nI kp), .ref ba, .int (nI hd), .ref wa])), (ra, .inl (kr, 8, .inl (aN rf))), (ca, .inl (kc, 8, .inl (aN cf))), (ha, .inl (kh, 8, .inl (aN hf)))]) (va_A [(mo, .inr (8, [.int (nI th), .ref ra, .ref ca, .ref ha, .int (nI kp), .ref ba, .int (nI hd), .ref wa])), (ra, .inl (kr, 8, .inl (aN rf))), (ca, .inl (kc, 8, .inl (aN cf))), (ha, .inl (kh, 8, .inl (aN hf)))] sz)
set_option maxHeartbeats 4000000 in
set_option maxRecDepth 100000 in
theorem c_X6_order_no (l : Launch) (D : va_G) (sz : Nat) (mo : Nat) (ra : Nat) (ca : Nat) (ha : Nat) (ba : Nat) (wa : Nat) (kp : Nat) (hd : Nat) (kr : ClassId) (kc : ClassId) (kh : ClassId) (th : Nat) (rf : Nat → Nat) (cf : Nat → Nat) (hf : Nat → Nat) (x0 : Int32) (hrf : ∀ k, k < 8 → rf k < 256) (hkp : kp ≤ 8) (hno : inN 8 x0 = false) : Met l yX6_order wsX6_order rm_c_X6_order_no (va_Pc [.ref mo, .int x0] (fun U => U.heap.size = sz ∧ va_P D vwCl [(mo, .inr (8, [.int (nI th), .ref ra, .ref ca, .ref ha, .int (nI kp), .ref ba, .int (nI hd), .ref wa])), (ra, .inl (kr, 8, .inl (aN rf))), (ca, .inl (kc, 8, .inl (aN cf))), (ha, .inl (kh, 8, .inl (aN hf)))] U.heap ∧ va_K D vwCl [(kr, .int), (kc, .int), (kh, .int)] U ∧ va_D (fun _ => True) [(mo, .inr (8, [.int (nI th), .ref ra, .ref ca, .ref ha, .int (nI kp), .ref ba, .int (nI hd), .ref wa])), (ra, .inl (kr, 8, .inl (aN rf))), (ca, .inl (kc, 8, .inl (aN cf))), (ha, .inl (kh, 8, .inl (aN hf)))])) (q_c_X6_order_no D sz mo ra ca ha ba wa kp hd kr kc kh th rf cf hf x0) 0 0 (va_A [(mo, .inr (8, [.int (nI th), .ref ra, .ref ca, .ref ha, .int (nI kp), .ref ba, .int (nI hd), .ref wa])), (ra, .inl (kr, 8, .inl (aN rf))), (ca, .inl (kc, 8, .inl (aN cf))), (ha, .inl (kh, 8, .inl (aN hf)))] sz) := by
  refine Met.ofW (cc := cX6_order) (maxL := 4) (ret := (some .int)) (by decide) rfl ?_
  intro p e s m args below meth c s₁ B hml hv
  obtain ⟨hargs, hsz, hP, hK, hD0⟩ := hv
  have hx := B.exec
  have hb := B.bytes
  have hr := B.returns
  have hts := atoms_spec (ws := wsX6_order) B.pre
  have hown : s.vm.findClass RX6 = some m.cls := findClass_of_methodNamed B.named
  have hlocks := B.notSynchronized
  subst hsz
  have hD := hD0.self (sz := s.heap.size)
  generalize hAe : va_A [(mo, .inr (8, [.int (nI th), .ref ra, .ref ca, .ref ha, .int (nI kp), .ref ba, .int (nI hd), .ref wa])), (ra, .inl (kr, 8, .inl (aN rf))), (ca, .inl (kc, 8, .inl (aN cf))), (ha, .inl (kh, 8, .inl (aN hf)))] s.heap.size = A at hD ⊢
  have hA : ∀ q : Nat, s.heap.size ≤ q → A q := fun q h => by rw [← hAe]; exact Or.inr h
  have hS : va_S A s.heap s.heap [] := va_S.rf
  have hl := lv_entry ([.ref mo, .int x0]) (n := 4) (Nat.le_of_ble_eq_true rfl)
  refine W.eq (g2 := F0 m 0 (lg_sl ([.ref mo, .int x0]) ++ List.replicate (4 - (lg_sl ([.ref mo, .int x0])).length) Slot.unset).toArray []) (by rw [hargs]; exact lg_entry_eq _ _ _) ?_
  generalize (lg_sl ([.ref mo, .int x0]) ++ List.replicate (4 - (lg_sl ([.ref mo, .int x0])).length) Slot.unset).toArray = ls at hl ⊢
  have hl : lv_has ls 4 [(0, .ref mo), (1, .int x0)] := hl
  refine lv_aload_n hx hb dX6_order_0 rfl (lv_at hl 0 rfl) ?_
  refine lv_iload_n hx hb dX6_order_1 rfl (lv_at hl 1 rfl) ?_
  refine lv_iconst (v := nI 0) hx hb dX6_order_2 zki_0 ?_
  refine lv_iconst (v := nI 0) hx hb dX6_order_3 zki_0 ?_
  have hPc := hP.sub (ws' := [(mo, .inr (8, [.int (nI th), .ref ra, .ref ca, .ref ha, .int (nI kp), .ref ba, .int (nI hd), .ref wa]))]) [0] rfl
  have hDc := hD.sub (ws' := [(mo, .inr (8, [.int (nI th), .ref ra, .ref ca, .ref ha, .int (nI kp), .ref ba, .int (nI hd), .ref wa]))]) [0] (by decide) rfl
  have hKc := hK.sub (tys' := []) [] rfl
  have hFc := va_free (wc := [(mo, .inr (8, [.int (nI th), .ref ra, .ref ca, .ref ha, .int (nI kp), .ref ba, .int (nI hd), .ref wa]))]) hD hS hA [0] rfl
  refine va_calli (va_runV (As := [.int x0, .int (nI 0), .int (nI 0)]) (rest := []) ⟨hx, hb, hml, hown, hts⟩ (c_X6_areNone_no l D s.heap.size mo ra ca ha ba wa kp hd th x0 (nI 0) (nI 0) (by rw [ok3_1]; exact hno)) (cwV 3 hts gX6_order_X6_areNone rfl rfl rfl (by decide +kernel) ⟨Nat.le_of_ble_eq_true rfl, Nat.le_of_ble_eq_true rfl⟩) ⟨(z_fb2), va_recv hK hP (ci := 8) (q0 := 0) rfl rfl, fun U hU hW => ⟨rfl, by rw [hU], by rw [hU]; exact hPc, va_K.moved hW.alike hKc, hDc.weaken (fun _ _ _ _ => trivial)⟩⟩ rfl rfl hl.1 rfl (lv_room (Nat.le_of_ble_eq_true rfl)) dX6_order_4 ⟨Nat.le_of_ble_eq_true rfl, Nat.le_of_ble_eq_true rfl⟩) hS (fun q _ h => hFc q h) hFc (fun r4 u4 t H locs ht hvm e4 hB hz1 hk1 hS => ?_)
  obtain ⟨hP1, hK1, hD1⟩ := hB
  rw [ht] at hP1
  obtain ⟨hP, hD⟩ := va_join (wr := [(ra, .inl (kr, 8, .inl (aN rf))), (ca, .inl (kc, 8, .inl (aN cf))), (ha, .inl (kh, 8, .inl (aN hf)))]) (w1 := [(mo, .inr (8, [.int (nI 1), .ref ra, .ref ca, .ref ha, .int (nI kp), .ref ba, .int (nI hd), .ref wa]))]) hP hD [0] [1, 2, 3] rfl rfl (by decide) (by decide) hk1 hFc hP1 hD1
  have hP : va_P D vwCl [(ra, .inl (kr, 8, .inl (aN rf))), (ca, .inl (kc, 8, .inl (aN cf))), (ha, .inl (kh, 8, .inl (aN hf))), (mo, .inr (8, [.int (nI 1), .ref ra, .ref ca, .ref ha, .int (nI kp), .ref ba, .int (nI hd), .ref wa]))] H := hP
  have hD : va_D A [(ra, .inl (kr, 8, .inl (aN rf))), (ca, .inl (kc, 8, .inl (aN cf))), (ha, .inl (kh, 8, .inl (aN hf))), (mo, .inr (8, [.int (nI 1), .ref ra, .ref ca, .ref ha, .int (nI kp), .ref ba, .int (nI hd), .ref wa]))] := hD
  refine W.widen (k := 0) (n := 0) (Nat.le_of_ble_eq_true rfl) (Nat.le_of_ble_eq_true rfl) ?_
  subst e4
  refine z_bne (tgt := 32) hx hb dX6_order_7 (by decide) (fun c_7 => ?_) (fun c_7 => absurd c_7 (by decide))
  refine lv_iconst (v := nI 0) hx hb dX6_order_32 zki_0 ?_
  have hP9 := hP.sub (ws' := [(mo, .inr (8, [.int (nI 1), .ref ra, .ref ca, .ref ha, .int (nI kp), .ref ba, .int (nI hd), .ref wa])), (ra, .inl (kr, 8, .inl (aN rf))), (ca, .inl (kc, 8, .inl (aN cf))), (ha, .inl (kh, 8, .inl (aN hf)))]) [3, 0, 1, 2] rfl
  have hD9 := hD.sub (ws' := [(mo, .inr (8, [.int (nI 1), .ref ra, .ref ca, .ref ha, .int (nI kp), .ref ba, .int (nI hd), .ref wa])), (ra, .inl (kr, 8, .inl (aN rf))), (ca, .inl (kc, 8, .inl (aN cf))), (ha, .inl (kh, 8, .inl (aN hf)))]) [3, 0, 1, 2] (by decide) rfl
  have hK9 := hK.sub (tys' := [(kr, .int), (kc, .int), (kh, .int)]) [0, 1, 2] rfl
  subst hAe
  refine W.widen (k := 0) (n := 0) (Nat.le_of_ble_eq_true rfl) (Nat.le_of_ble_eq_true rfl) ?_
  exact W.iret hx hb hr (fun t ht hW => ⟨⟨_, (), rfl, (rfl), by rw [ht]; exact hP9, va_K.moved hW.alike hK9, hD9⟩, hS.F ht⟩) hS.2.2 dX6_order_33
abbrev rm_c_X6_order_bad : Room := { frames := 2, cells := 0, slots := 0, locals := 45 }
abbrev q_c_X6_order_bad (D : va_G) (sz : Nat) (mo : Nat) (ra : Nat) (ca : Nat) (ha : Nat) (ba : Nat) (wa : Nat) (kp : Nat) (hd : Nat) (kr : ClassId) (kc : ClassId) (kh : ClassId) (th : Nat) (rf : Nat → Nat) (cf : Nat → Nat) (hf : Nat → Nat) (j : Nat) : Array Value → State → Outcome → State → Prop := va_Qi (fun r (_ : Unit) => r = (nI 0)) (fun (_ : Unit) t => va_P D vwCl [(mo, .inr (8, [.int (nI 2), .ref ra, .ref ca, .ref ha, .int (nI kp), .ref ba, .int (nI hd), .ref wa])), (ra, .inl (kr, 8, .inl (aN rf))), (ca, .inl (kc, 8, .inl (aN cf))), (ha, .inl (kh, 8, .inl (aN hf)))] t.heap ∧ va_K D vwCl [(kr, .int), (kc, .int), (kh, .int)] t ∧ va_D (va_A [(mo, .inr (8, [.int (nI th), .ref ra, .ref ca, .ref ha, .int (nI kp), .ref ba, .int (nI hd), .ref wa])), (ra, .inl (kr, 8, .inl (aN rf))), (ca, .inl (kc, 8, .inl (aN cf))), (ha, .inl (kh, 8, .inl (aN hf)))] sz) [(mo, .inr (8, [.int (nI 2), .ref ra, .ref ca, .ref ha, .int (nI kp), .ref ba, .int (nI hd), .ref wa])), (ra, .inl (kr, 8, .inl (aN rf))), (ca, .inl (kc, 8, .inl (aN cf))), (ha, .inl (kh, 8, .inl (aN hf)))]) (va_A [(mo, .inr (8, [.int (nI th), .ref ra, .ref ca, .ref ha, .int (nI kp), .ref ba, .int (nI hd), .ref wa])), (ra, .inl (kr, 8, .inl (aN rf))), (ca, .inl (kc, 8, .inl (aN cf))), (ha, .inl (kh, 8, .inl (aN hf)))] sz)
set_option maxHeartbeats 4000000 in
set_option maxRecDepth 100000 in
theorem c_X6_order_bad (l : Launch) (D : va_G) (sz : Nat) (mo : Nat) (ra : Nat) (ca : Nat) (ha : Nat) (ba : Nat) (wa : Nat) (kp : Nat) (hd : Nat) (kr : ClassId) (kc : ClassId) (kh : ClassId) (th : Nat) (rf : Nat → Nat) (cf : Nat → Nat) (hf : Nat → Nat) (j : Nat) (hrf : ∀ k, k < 8 → rf k < 256) (hkp : kp ≤ 8) (hj : j < 8) (hz : rf j = 0) : Met l yX6_order wsX6_order rm_c_X6_order_bad (va_Pc [.ref mo, .int (nI j)] (fun U => U.heap.size = sz ∧ va_P D vwCl [(mo, .inr (8, [.int (nI th), .ref ra, .ref ca, .ref ha, .int (nI kp), .ref ba, .int (nI hd), .ref wa])), (ra, .inl (kr, 8, .inl (aN rf))), (ca, .inl (kc, 8, .inl (aN cf))), (ha, .inl (kh, 8, .inl (aN hf)))] U.heap ∧ va_K D vwCl [(kr, .int), (kc, .int), (kh, .int)] U ∧ va_D (fun _ => True) [(mo, .inr (8, [.int (nI th), .ref ra, .ref ca, .ref ha, .int (nI kp), .ref ba, .int (nI hd), .ref wa])), (ra, .inl (kr, 8, .inl (aN rf))), (ca, .inl (kc, 8, .inl (aN cf))), (ha, .inl (kh, 8, .inl (aN hf)))])) (q_c_X6_order_bad D sz mo ra ca ha ba wa kp hd kr kc kh th rf cf hf j) 0 0 (va_A [(mo, .inr (8, [.int (nI th), .ref ra, .ref ca, .ref ha, .int (nI kp), .ref ba, .int (nI hd), .ref wa])), (ra, .inl (kr, 8, .inl (aN rf))), (ca, .inl (kc, 8, .inl (aN cf))), (ha, .inl (kh, 8, .inl (aN hf)))] sz) := by
  refine Met.ofW (cc := cX6_order) (maxL := 4) (ret := (some .int)) (by decide) rfl ?_
  intro p e s m args below meth c s₁ B hml hv
  obtain ⟨hargs, hsz, hP, hK, hD0⟩ := hv
  have hx := B.exec
  have hb := B.bytes
  have hr := B.returns
  have hts := atoms_spec (ws := wsX6_order) B.pre
  have hown : s.vm.findClass RX6 = some m.cls := findClass_of_methodNamed B.named
  have hlocks := B.notSynchronized
  subst hsz
  have hD := hD0.self (sz := s.heap.size)
  generalize hAe : va_A [(mo, .inr (8, [.int (nI th), .ref ra, .ref ca, .ref ha, .int (nI kp), .ref ba, .int (nI hd), .ref wa])), (ra, .inl (kr, 8, .inl (aN rf))), (ca, .inl (kc, 8, .inl (aN cf))), (ha, .inl (kh, 8, .inl (aN hf)))] s.heap.size = A at hD ⊢
  have hA : ∀ q : Nat, s.heap.size ≤ q → A q := fun q h => by rw [← hAe]; exact Or.inr h
  have hS : va_S A s.heap s.heap [] := va_S.rf
  have hl := lv_entry ([.ref mo, .int (nI j)]) (n := 4) (Nat.le_of_ble_eq_true rfl)
  refine W.eq (g2 := F0 m 0 (lg_sl ([.ref mo, .int (nI j)]) ++ List.replicate (4 - (lg_sl ([.ref mo, .int (nI j)])).length) Slot.unset).toArray []) (by rw [hargs]; exact lg_entry_eq _ _ _) ?_
  generalize (lg_sl ([.ref mo, .int (nI j)]) ++ List.replicate (4 - (lg_sl ([.ref mo, .int (nI j)])).length) Slot.unset).toArray = ls at hl ⊢
  have hl : lv_has ls 4 [(0, .ref mo), (1, .int (nI j))] := hl
  refine lv_aload_n hx hb dX6_order_0 rfl (lv_at hl 0 rfl) ?_
  refine lv_iload_n hx hb dX6_order_1 rfl (lv_at hl 1 rfl) ?_
  refine lv_iconst (v := nI 0) hx hb dX6_order_2 zki_0 ?_
  refine lv_iconst (v := nI 0) hx hb dX6_order_3 zki_0 ?_
  have hPc := hP.sub (ws' := [(mo, .inr (8, [.int (nI th), .ref ra, .ref ca, .ref ha, .int (nI kp), .ref ba, .int (nI hd), .ref wa]))]) [0] rfl
  have hDc := hD.sub (ws' := [(mo, .inr (8, [.int (nI th), .ref ra, .ref ca, .ref ha, .int (nI kp), .ref ba, .int (nI hd), .ref wa]))]) [0] (by decide) rfl
  have hKc := hK.sub (tys' := []) [] rfl
  have hFc := va_free (wc := [(mo, .inr (8, [.int (nI th), .ref ra, .ref ca, .ref ha, .int (nI kp), .ref ba, .int (nI hd), .ref wa]))]) hD hS hA [0] rfl
  refine va_calli (va_runV (As := [.int (nI j), .int (nI 0), .int (nI 0)]) (rest := []) ⟨hx, hb, hml, hown, hts⟩ (c_X6_areNone_ok l D s.heap.size mo ra ca ha ba wa kp hd th j 0 0 (by omega) (by omega) (by omega)) (cwV 3 hts gX6_order_X6_areNone rfl rfl rfl (by decide +kernel) ⟨Nat.le_of_ble_eq_true rfl, Nat.le_of_ble_eq_true rfl⟩) ⟨(z_fb2), va_recv hK hP (ci := 8) (q0 := 0) rfl rfl, fun U hU hW => ⟨rfl, by rw [hU], by rw [hU]; exact hPc, va_K.moved hW.alike hKc, hDc.weaken (fun _ _ _ _ => trivial)⟩⟩ rfl rfl hl.1 rfl (lv_room (Nat.le_of_ble_eq_true rfl)) dX6_order_4 ⟨Nat.le_of_ble_eq_true rfl, Nat.le_of_ble_eq_true rfl⟩) hS (fun q _ h => hFc q h) hFc (fun r4 u4 t H locs ht hvm e4 hB hz1 hk1 hS => ?_)
  obtain ⟨hP1, hK1, hD1⟩ := hB
  rw [ht] at hP1
  obtain ⟨hP, hD⟩ := va_join (wr := [(ra, .inl (kr, 8, .inl (aN rf))), (ca, .inl (kc, 8, .inl (aN cf))), (ha, .inl (kh, 8, .inl (aN hf)))]) (w1 := [(mo, .inr (8, [.int (nI 0), .ref ra, .ref ca, .ref ha, .int (nI kp), .ref ba, .int (nI hd), .ref wa]))]) hP hD [0] [1, 2, 3] rfl rfl (by decide) (by decide) hk1 hFc hP1 hD1
  have hP : va_P D vwCl [(ra, .inl (kr, 8, .inl (aN rf))), (ca, .inl (kc, 8, .inl (aN cf))), (ha, .inl (kh, 8, .inl (aN hf))), (mo, .inr (8, [.int (nI 0), .ref ra, .ref ca, .ref ha, .int (nI kp), .ref ba, .int (nI hd), .ref wa]))] H := hP
  have hD : va_D A [(ra, .inl (kr, 8, .inl (aN rf))), (ca, .inl (kc, 8, .inl (aN cf))), (ha, .inl (kh, 8, .inl (aN hf))), (mo, .inr (8, [.int (nI 0), .ref ra, .ref ca, .ref ha, .int (nI kp), .ref ba, .int (nI hd), .ref wa]))] := hD
  refine W.widen (k := 0) (n := 0) (Nat.le_of_ble_eq_true rfl) (Nat.le_of_ble_eq_true rfl) ?_
  subst e4
  refine z_bne (tgt := 32) hx hb dX6_order_7 (by decide) (fun c_7 => absurd c_7 (by decide)) (fun c_7 => ?_)
  refine lv_aload_n hx hb dX6_order_10 rfl (lv_at hl 0 rfl) ?_
  refine lv_aload_n hx hb dX6_order_11 rfl (lv_at hl 0 rfl) ?_
  refine va_get (D := D) (ci := 8) (v := .ref ra) (C := RX6) (T := TX6) (N := 8) hx hb hts nX6_order_inX6 hown hK hP 3 rfl rfl 1 (by decide) (hts (.fieldLink RX6 9 "GamefieldModel" "registers" "[I") (by decide +kernel)) (fun _ h9 => h9) rfl dX6_order_12 ?_
  refine lv_iload_n hx hb dX6_order_15 rfl (lv_at hl 1 rfl) ?_
  refine z_iald hx hb hK hP 0 0 rfl rfl (by omega) (by decide) dX6_order_16 ?_
  refine z_fne (tgt := 24) hx hb (by omega) dX6_order_17 (by decide) (fun c_17 => absurd hz (by omega)) (fun c_17 => ?_)
  refine lv_iconst (v := nI 1) hx hb dX6_order_20 zki_1 ?_
  refine lv_goto (tgt := 25) hx hb dX6_order_21 (by decide) ?_
  refine lv_iconst (v := nI 2) hx hb dX6_order_25 zki_2 ?_
  have hPc := hP.sub (ws' := [(mo, .inr (8, [.int (nI 0), .ref ra, .ref ca, .ref ha, .int (nI kp), .ref ba, .int (nI hd), .ref wa]))]) [3] rfl
  have hDc := hD.sub (ws' := [(mo, .inr (8, [.int (nI 0), .ref ra, .ref ca, .ref ha, .int (nI kp), .ref ba, .int (nI hd), .ref wa]))]) [3] (by decide) rfl
  have hKc := hK.sub (tys' := []) [] rfl
  have hFc := va_free (wc := [(mo, .inr (8, [.int (nI 0), .ref ra, .ref ca, .ref ha, .int (nI kp), .ref ba, .int (nI hd), .ref wa]))]) hD hS hA [3] rfl
  refine va_calli (va_runV (As := [.int (nI 1), .int (nI 2)]) (rest := []) ⟨hx, hb, hml, hown, hts⟩ (c_X6_fails_true l D H.size mo ra ca ha ba wa kp hd 2 (by omega) (by omega)) (cwV 2 hts gX6_order_X6_fails rfl rfl rfl (by decide +kernel) ⟨Nat.le_of_ble_eq_true rfl, Nat.le_of_ble_eq_true rfl⟩) ⟨(z_fb2), va_recv hK hP (ci := 8) (q0 := 3) rfl rfl, fun U hU hW => ⟨rfl, by rw [hU], by rw [hU]; exact hPc, va_K.moved hW.alike hKc, hDc.weaken (fun _ _ _ _ => trivial)⟩⟩ rfl rfl hl.1 rfl (lv_room (Nat.le_of_ble_eq_true rfl)) dX6_order_26 ⟨Nat.le_of_ble_eq_true rfl, Nat.le_of_ble_eq_true rfl⟩) hS (fun q _ h => hFc q h) hFc (fun r26 u26 t H locs ht hvm e26 hB hz1 hk1 hS => ?_)
  obtain ⟨hP1, hK1, hD1⟩ := hB
  rw [ht] at hP1
  obtain ⟨hP, hD⟩ := va_join (wr := [(ra, .inl (kr, 8, .inl (aN rf))), (ca, .inl (kc, 8, .inl (aN cf))), (ha, .inl (kh, 8, .inl (aN hf)))]) (w1 := [(mo, .inr (8, [.int (nI 2), .ref ra, .ref ca, .ref ha, .int (nI kp), .ref ba, .int (nI hd), .ref wa]))]) hP hD [3] [0, 1, 2] rfl rfl (by decide) (by decide) hk1 hFc hP1 hD1
  have hP : va_P D vwCl [(ra, .inl (kr, 8, .inl (aN rf))), (ca, .inl (kc, 8, .inl (aN cf))), (ha, .inl (kh, 8, .inl (aN hf))), (mo, .inr (8, [.int (nI 2), .ref ra, .ref ca, .ref ha, .int (nI kp), .ref ba, .int (nI hd), .ref wa]))] H := hP
  have hD : va_D A [(ra, .inl (kr, 8, .inl (aN rf))), (ca, .inl (kc, 8, .inl (aN cf))), (ha, .inl (kh, 8, .inl (aN hf))), (mo, .inr (8, [.int (nI 2), .ref ra, .ref ca, .ref ha, .int (nI kp), .ref ba, .int (nI hd), .ref wa]))] := hD
  refine W.widen (k := 0) (n := 0) (Nat.le_of_ble_eq_true rfl) (Nat.le_of_ble_eq_true rfl) ?_
  subst e26
  refine z_beq (tgt := 34) hx hb dX6_order_29 (by decide) (fun c_29 => absurd c_29 (by decide)) (fun c_29 => ?_)
  refine lv_iconst (v := nI 0) hx hb dX6_order_32 zki_0 ?_
  have hP9 := hP.sub (ws' := [(mo, .inr (8, [.int (nI 2), .ref ra, .ref ca, .ref ha, .int (nI kp), .ref ba, .int (nI hd), .ref wa])), (ra, .inl (kr, 8, .inl (aN rf))), (ca, .inl (kc, 8, .inl (aN cf))), (ha, .inl (kh, 8, .inl (aN hf)))]) [3, 0, 1, 2] rfl
  have hD9 := hD.sub (ws' := [(mo, .inr (8, [.int (nI 2), .ref ra, .ref ca, .ref ha, .int (nI kp), .ref ba, .int (nI hd), .ref wa])), (ra, .inl (kr, 8, .inl (aN rf))), (ca, .inl (kc, 8, .inl (aN cf))), (ha, .inl (kh, 8, .inl (aN hf)))]) [3, 0, 1, 2] (by decide) rfl
  have hK9 := hK.sub (tys' := [(kr, .int), (kc, .int), (kh, .int)]) [0, 1, 2] rfl
  subst hAe
  refine W.widen (k := 0) (n := 0) (Nat.le_of_ble_eq_true rfl) (Nat.le_of_ble_eq_true rfl) ?_
  exact W.iret hx hb hr (fun t ht hW => ⟨⟨_, (), rfl, (rfl), by rw [ht]; exact hP9, va_K.moved hW.alike hK9, hD9⟩, hS.F ht⟩) hS.2.2 dX6_order_33
abbrev rm_c_X6_squarings_ok : Room := { frames := 4, cells := 0, slots := 0, locals := 116 }
abbrev q_c_X6_squarings_ok (D : va_G) (sz : Nat) (mo : Nat) (ra : Nat) (ca : Nat) (ha : Nat) (ba : Nat) (wa : Nat) (kp : Nat) (hd : Nat) (kr : ClassId) (kc : ClassId) (kh : ClassId) (th : Nat) (rf : Nat → Nat) (cf : Nat → Nat) (hf : Nat → Nat) (j : Nat) : Array Value → State → Outcome → State → Prop := va_Qi (fun r (_ : Unit) => r = (nI (sq (rf j)))) (fun (_ : Unit) t => va_P D vwCl [(mo, .inr (8, [.int (nI 0), .ref ra, .ref ca, .ref ha, .int (nI kp), .ref ba, .int (nI hd), .ref wa])), (ra, .inl (kr, 8, .inl (aN rf))), (ca, .inl (kc, 8, .inl (aN cf))), (ha, .inl (kh, 8, .inl (aN hf)))] t.heap ∧ va_K D vwCl [(kr, .int), (kc, .int), (kh, .int)] t ∧ va_D (va_A [(mo, .inr (8, [.int (nI th), .ref ra, .ref ca, .ref ha, .int (nI kp), .ref ba, .int (nI hd), .ref wa])), (ra, .inl (kr, 8, .inl (aN rf))), (ca, .inl (kc, 8, .inl (aN cf))), (ha, .inl (kh, 8, .inl (aN hf)))] sz) [(mo, .inr (8, [.int (nI 0), .ref ra, .ref ca, .ref ha, .int (nI kp), .ref ba, .int (nI hd), .ref wa])), (ra, .inl (kr, 8, .inl (aN rf))), (ca, .inl (kc, 8, .inl (aN cf))), (ha, .inl (kh, 8, .inl (aN hf)))]) (va_A [(mo, .inr (8, [.int (nI th), .ref ra, .ref ca, .ref ha, .int (nI kp), .ref ba, .int (nI hd), .ref wa])), (ra, .inl (kr, 8, .inl (aN rf))), (ca, .inl (kc, 8, .inl (aN cf))), (ha, .inl (kh, 8, .inl (aN hf)))] sz)
set_option maxHeartbeats 4000000 in
set_option maxRecDepth 100000 in
theorem c_X6_squarings_ok (l : Launch) (D : va_G) (sz : Nat) (mo : Nat) (ra : Nat) (ca : Nat) (ha : Nat) (ba : Nat) (wa : Nat) (kp : Nat) (hd : Nat) (kr : ClassId) (kc : ClassId) (kh : ClassId) (th : Nat) (rf : Nat → Nat) (cf : Nat → Nat) (hf : Nat → Nat) (j : Nat) (hrf : ∀ k, k < 8 → rf k < 256) (hkp : kp ≤ 8) (hj : j < 8) : Met l yX6_squarings wsX6_squarings rm_c_X6_squarings_ok (va_Pc [.ref mo, .int (nI j)] (fun U => U.heap.size = sz ∧ va_P D vwCl [(mo, .inr (8, [.int (nI th), .ref ra, .ref ca, .ref ha, .int (nI kp), .ref ba, .int (nI hd), .ref wa])), (ra, .inl (kr, 8, .inl (aN rf))), (ca, .inl (kc, 8, .inl (aN cf))), (ha, .inl (kh, 8, .inl (aN hf)))] U.heap ∧ va_K D vwCl [(kr, .int), (kc, .int), (kh, .int)] U ∧ va_D (fun _ => True) [(mo, .inr (8, [.int (nI th), .ref ra, .ref ca, .ref ha, .int (nI kp), .ref ba, .int (nI hd), .ref wa])), (ra, .inl (kr, 8, .inl (aN rf))), (ca, .inl (kc, 8, .inl (aN cf))), (ha, .inl (kh, 8, .inl (aN hf)))])) (q_c_X6_squarings_ok D sz mo ra ca ha ba wa kp hd kr kc kh th rf cf hf j) 0 0 (va_A [(mo, .inr (8, [.int (nI th), .ref ra, .ref ca, .ref ha, .int (nI kp), .ref ba, .int (nI hd), .ref wa])), (ra, .inl (kr, 8, .inl (aN rf))), (ca, .inl (kc, 8, .inl (aN cf))), (ha, .inl (kh, 8, .inl (aN hf)))] sz) := by
  refine Met.ofW (cc := cX6_squarings) (maxL := 4) (ret := (some .int)) (by decide) rfl ?_
  intro p e s m args below meth c s₁ B hml hv
  obtain ⟨hargs, hsz, hP, hK, hD0⟩ := hv
  have hx := B.exec
  have hb := B.bytes
  have hr := B.returns
  have hts := atoms_spec (ws := wsX6_squarings) B.pre
  have hown : s.vm.findClass RX6 = some m.cls := findClass_of_methodNamed B.named
  have hlocks := B.notSynchronized
  subst hsz
  have hD := hD0.self (sz := s.heap.size)
  generalize hAe : va_A [(mo, .inr (8, [.int (nI th), .ref ra, .ref ca, .ref ha, .int (nI kp), .ref ba, .int (nI hd), .ref wa])), (ra, .inl (kr, 8, .inl (aN rf))), (ca, .inl (kc, 8, .inl (aN cf))), (ha, .inl (kh, 8, .inl (aN hf)))] s.heap.size = A at hD ⊢
  have hA : ∀ q : Nat, s.heap.size ≤ q → A q := fun q h => by rw [← hAe]; exact Or.inr h
  have hS : va_S A s.heap s.heap [] := va_S.rf
  have hl := lv_entry ([.ref mo, .int (nI j)]) (n := 4) (Nat.le_of_ble_eq_true rfl)
  refine W.eq (g2 := F0 m 0 (lg_sl ([.ref mo, .int (nI j)]) ++ List.replicate (4 - (lg_sl ([.ref mo, .int (nI j)])).length) Slot.unset).toArray []) (by rw [hargs]; exact lg_entry_eq _ _ _) ?_
  generalize (lg_sl ([.ref mo, .int (nI j)]) ++ List.replicate (4 - (lg_sl ([.ref mo, .int (nI j)])).length) Slot.unset).toArray = ls at hl ⊢
  have hl : lv_has ls 4 [(0, .ref mo), (1, .int (nI j))] := hl
  refine lv_aload_n hx hb dX6_squarings_0 rfl (lv_at hl 0 rfl) ?_
  refine lv_iload_n hx hb dX6_squarings_1 rfl (lv_at hl 1 rfl) ?_
  refine lv_iconst (v := nI 0) hx hb dX6_squarings_2 zki_0 ?_
  refine lv_iconst (v := nI 0) hx hb dX6_squarings_3 zki_0 ?_
  have hPc := hP.sub (ws' := [(mo, .inr (8, [.int (nI th), .ref ra, .ref ca, .ref ha, .int (nI kp), .ref ba, .int (nI hd), .ref wa]))]) [0] rfl
  have hDc := hD.sub (ws' := [(mo, .inr (8, [.int (nI th), .ref ra, .ref ca, .ref ha, .int (nI kp), .ref ba, .int (nI hd), .ref wa]))]) [0] (by decide) rfl
  have hKc := hK.sub (tys' := []) [] rfl
  have hFc := va_free (wc := [(mo, .inr (8, [.int (nI th), .ref ra, .ref ca, .ref ha, .int (nI kp), .ref ba, .int (nI hd), .ref wa]))]) hD hS hA [0] rfl
  refine va_calli (va_runV (As := [.int (nI j), .int (nI 0), .int (nI 0)]) (rest := []) ⟨hx, hb, hml, hown, hts⟩ (c_X6_areNone_ok l D s.heap.size mo ra ca ha ba wa kp hd th j 0 0 (by omega) (by omega) (by omega)) (cwV 3 hts gX6_squarings_X6_areNone rfl rfl rfl (by decide +kernel) ⟨Nat.le_of_ble_eq_true rfl, Nat.le_of_ble_eq_true rfl⟩) ⟨(z_fb2), va_recv hK hP (ci := 8) (q0 := 0) rfl rfl, fun U hU hW => ⟨rfl, by rw [hU], by rw [hU]; exact hPc, va_K.moved hW.alike hKc, hDc.weaken (fun _ _ _ _ => trivial)⟩⟩ rfl rfl hl.1 rfl (lv_room (Nat.le_of_ble_eq_true rfl)) dX6_squarings_4 ⟨Nat.le_of_ble_eq_true rfl, Nat.le_of_ble_eq_true rfl⟩) hS (fun q _ h => hFc q h) hFc (fun r4 u4 t H locs ht hvm e4 hB hz1 hk1 hS => ?_)
  obtain ⟨hP1, hK1, hD1⟩ := hB
  rw [ht] at hP1
  obtain ⟨hP, hD⟩ := va_join (wr := [(ra, .inl (kr, 8, .inl (aN rf))), (ca, .inl (kc, 8, .inl (aN cf))), (ha, .inl (kh, 8, .inl (aN hf)))]) (w1 := [(mo, .inr (8, [.int (nI 0), .ref ra, .ref ca, .ref ha, .int (nI kp), .ref ba, .int (nI hd), .ref wa]))]) hP hD [0] [1, 2, 3] rfl rfl (by decide) (by decide) hk1 hFc hP1 hD1
  have hP : va_P D vwCl [(ra, .inl (kr, 8, .inl (aN rf))), (ca, .inl (kc, 8, .inl (aN cf))), (ha, .inl (kh, 8, .inl (aN hf))), (mo, .inr (8, [.int (nI 0), .ref ra, .ref ca, .ref ha, .int (nI kp), .ref ba, .int (nI hd), .ref wa]))] H := hP
  have hD : va_D A [(ra, .inl (kr, 8, .inl (aN rf))), (ca, .inl (kc, 8, .inl (aN cf))), (ha, .inl (kh, 8, .inl (aN hf))), (mo, .inr (8, [.int (nI 0), .ref ra, .ref ca, .ref ha, .int (nI kp), .ref ba, .int (nI hd), .ref wa]))] := hD
  refine W.widen (k := 0) (n := 0) (Nat.le_of_ble_eq_true rfl) (Nat.le_of_ble_eq_true rfl) ?_
  subst e4
  have hr_j : rf j < 256 := hrf _ (by omega)
  refine z_beq (tgt := 12) hx hb dX6_squarings_7 (by decide) (fun c_7 => ?_) (fun c_7 => absurd c_7 (by decide))
  refine lv_iconst (v := nI 1) hx hb dX6_squarings_12 zki_1 ?_
  refine lv_istore_n (lv' := [(2, .int (nI 1)), (0, .ref mo), (1, .int (nI j))]) hx hb dX6_squarings_13 rfl hl (by decide) rfl (fun ls hl => ?_)
  refine lv_aload_n hx hb dX6_squarings_14 rfl (lv_at hl 1 rfl) ?_
  refine va_get (D := D) (ci := 8) (v := .ref ra) (C := RX6) (T := TX6) (N := 8) hx hb hts nX6_squarings_inX6 hown hK hP 3 rfl rfl 1 (by decide) (hts (.fieldLink RX6 9 "GamefieldModel" "registers" "[I") (by decide +kernel)) (fun _ h9 => h9) rfl dX6_squarings_15 ?_
  refine lv_iload_n hx hb dX6_squarings_18 rfl (lv_at hl 2 rfl) ?_
  refine z_iald hx hb hK hP 0 0 rfl rfl (by omega) (by decide) dX6_squarings_19 ?_
  refine lv_aload_n hx hb dX6_squarings_20 rfl (lv_at hl 1 rfl) ?_
  refine va_get (D := D) (ci := 8) (v := .ref ra) (C := RX6) (T := TX6) (N := 8) hx hb hts nX6_squarings_inX6 hown hK hP 3 rfl rfl 1 (by decide) (hts (.fieldLink RX6 9 "GamefieldModel" "registers" "[I") (by decide +kernel)) (fun _ h9 => h9) rfl dX6_squarings_21 ?_
  refine lv_iload_n hx hb dX6_squarings_24 rfl (lv_at hl 2 rfl) ?_
  refine z_iald hx hb hK hP 0 0 rfl rfl (by omega) (by decide) dX6_squarings_25 ?_
  refine z_ci (va_runS (As := [.int (nI (rf j)), .int (nI (rf j))]) (rest := []) ⟨hx, hb, hml, hown, hts⟩ (c_X6_productOf_256 l D (rf j) (rf j) (by omega) (by omega)) (va_cwS 2 hts gX6_squarings_X6_productOf rfl rfl rfl (by decide +kernel) ⟨Nat.le_of_ble_eq_true rfl, Nat.le_of_ble_eq_true rfl⟩) ⟨z_fb0, fun U hU hW => ⟨rfl, trivial⟩⟩ rfl rfl hl.1 rfl (lv_room (Nat.le_of_ble_eq_true rfl)) dX6_squarings_26 ⟨Nat.le_of_ble_eq_true rfl, Nat.le_of_ble_eq_true rfl⟩) (fun r26 e26 => ?_)
  subst e26
  have hn26 : np (rf j) (rf j) < 256 := np_lt (by omega) (by omega)
  refine lv_istore_n (lv' := [(3, .int (nI (np (rf j) (rf j)))), (2, .int (nI 1)), (0, .ref mo), (1, .int (nI j))]) hx hb dX6_squarings_29 rfl hl (by decide) rfl (fun ls hl => ?_)
  have cut_30 : ∀ (nn9 : Nat) (n9 : Nat) (xv : Nat) (d : Nat) (hd5 : d + n9 = 8) (hxv : xv < 256) (hinv : sqf d xv (rf j) n9 = sq (rf j)) (hos : ssf d xv (rf j) = true) (hn9 : d < nn9) (H : Heap) (locs : List Loc) (hP : va_P D vwCl [(mo, .inr (8, [.int (nI 0), .ref ra, .ref ca, .ref ha, .int (nI kp), .ref ba, .int (nI hd), .ref wa])), (ra, .inl (kr, 8, .inl (aN rf))), (ca, .inl (kc, 8, .inl (aN cf))), (ha, .inl (kh, 8, .inl (aN hf)))] H) (hD : va_D A [(mo, .inr (8, [.int (nI 0), .ref ra, .ref ca, .ref ha, .int (nI kp), .ref ba, .int (nI hd), .ref wa])), (ra, .inl (kr, 8, .inl (aN rf))), (ca, .inl (kc, 8, .inl (aN cf))), (ha, .inl (kh, 8, .inl (aN hf)))]) (hS : va_S A s.heap H locs) (ls : Array Slot) (hl : lv_has ls 4 [(0, .ref mo), (1, .int (nI j)), (2, .int (nI n9)), (3, .int (nI xv))]), W p l e (headSpec wsX6_squarings rm_c_X6_squarings_ok).room s m args below meth c H locs 0 0 (MQ below (q_c_X6_squarings_ok D s.heap.size mo ra ca ha ba wa kp hd kr kc kh th rf cf hf j) args s 0 0 A) (F0 m 30 ls []) := by
    intro nn9
    induction nn9 with
    | zero => intro n9 xv d hd5 hxv hinv hos hn9; exact absurd hn9 (Nat.not_lt_zero _)
    | succ nn9 ih_30 =>
      intro n9 xv d hd5 hxv hinv hos hn9 H locs hP hD hS ls hl
      refine lv_iload_n hx hb dX6_squarings_30 rfl (lv_at hl 3 rfl) ?_
      refine lv_aload_n hx hb dX6_squarings_31 rfl (lv_at hl 0 rfl) ?_
      refine va_get (D := D) (ci := 8) (v := .ref ra) (C := RX6) (T := TX6) (N := 8) hx hb hts nX6_squarings_inX6 hown hK hP 0 rfl rfl 1 (by decide) (hts (.fieldLink RX6 9 "GamefieldModel" "registers" "[I") (by decide +kernel)) (fun _ h9 => h9) rfl dX6_squarings_32 ?_
      refine lv_iload_n hx hb dX6_squarings_35 rfl (lv_at hl 1 rfl) ?_
      refine z_iald hx hb hK hP 1 0 rfl rfl (by omega) (by decide) dX6_squarings_36 ?_
      have hr37 : rf j < 256 := hrf _ (by omega)
      refine z_ceq (tgt := 52) hx hb (by omega) (by omega) dX6_squarings_37 (by decide) (fun c_37 => ?_) (fun c_37 => ?_)
      · refine lv_iload_n hx hb dX6_squarings_52 rfl (lv_at hl 2 rfl) ?_
        have hP9 := hP.sub (ws' := [(mo, .inr (8, [.int (nI 0), .ref ra, .ref ca, .ref ha, .int (nI kp), .ref ba, .int (nI hd), .ref wa])), (ra, .inl (kr, 8, .inl (aN rf))), (ca, .inl (kc, 8, .inl (aN cf))), (ha, .inl (kh, 8, .inl (aN hf)))]) [0, 1, 2, 3] rfl
        have hD9 := hD.sub (ws' := [(mo, .inr (8, [.int (nI 0), .ref ra, .ref ca, .ref ha, .int (nI kp), .ref ba, .int (nI hd), .ref wa])), (ra, .inl (kr, 8, .inl (aN rf))), (ca, .inl (kc, 8, .inl (aN cf))), (ha, .inl (kh, 8, .inl (aN hf)))]) [0, 1, 2, 3] (by decide) rfl
        have hK9 := hK.sub (tys' := [(kr, .int), (kc, .int), (kh, .int)]) [0, 1, 2] rfl
        subst hAe
        refine W.widen (k := 0) (n := 0) (Nat.le_of_ble_eq_true rfl) (Nat.le_of_ble_eq_true rfl) ?_
        exact W.iret hx hb hr (fun t ht hW => ⟨⟨_, (), rfl, (by subst c_37; rw [sqf_1] at hinv; exact congrArg nI hinv), by rw [ht]; exact hP9, va_K.moved hW.alike hK9, hD9⟩, hS.F ht⟩) hS.2.2 dX6_squarings_53
      · obtain ⟨d2, rfl⟩ : ∃ z, d = z + 1 := by
          cases d with
          | zero => exact absurd (ssf_0 hos) c_37
          | succ z => exact ⟨z, rfl⟩
        rw [sqf_s c_37] at hinv
        have hos2 := ssf_s hos c_37
        refine lv_iload_n hx hb dX6_squarings_40 rfl (lv_at hl 3 rfl) ?_
        refine lv_iload_n hx hb dX6_squarings_41 rfl (lv_at hl 3 rfl) ?_
        refine z_ci (va_runS (As := [.int (nI xv), .int (nI xv)]) (rest := []) ⟨hx, hb, hml, hown, hts⟩ (c_X6_productOf_256 l D xv xv (by omega) (by omega)) (va_cwS 2 hts gX6_squarings_X6_productOf rfl rfl rfl (by decide +kernel) ⟨Nat.le_of_ble_eq_true rfl, Nat.le_of_ble_eq_true rfl⟩) ⟨z_fb0, fun U hU hW => ⟨rfl, trivial⟩⟩ rfl rfl hl.1 rfl (lv_room (Nat.le_of_ble_eq_true rfl)) dX6_squarings_42 ⟨Nat.le_of_ble_eq_true rfl, Nat.le_of_ble_eq_true rfl⟩) (fun r42 e42 => ?_)
        subst e42
        have hn42 : np xv xv < 256 := np_lt (by omega) (by omega)
        refine lv_istore_n (lv' := [(3, .int (nI (np xv xv))), (0, .ref mo), (1, .int (nI j)), (2, .int (nI n9))]) hx hb dX6_squarings_45 rfl hl (by decide) rfl (fun ls hl => ?_)
        refine lv_iinc (v := (nI (n9 + 1))) (lv' := [(2, .int (nI (n9 + 1))), (3, .int (nI (np xv xv))), (0, .ref mo), (1, .int (nI j))]) hx hb dX6_squarings_46 hl (k := 3) rfl (z_inc n9 1) (by decide) rfl (fun ls hl => ?_)
        refine lv_goto (tgt := 30) hx hb dX6_squarings_49 (by decide) ?_
        exact ih_30 (n9 + 1) (np xv xv) d2 (by omega) (by omega) (hinv) (hos2) (by omega) H locs hP hD hS ls (lv_sub hl [2, 3, 0, 1] rfl)
  exact cut_30 (7 + 1) 1 (np (rf j) (rf j)) 7 (by omega) (by omega) (rfl) (sq_ok (hrf _ (by omega))) (Nat.lt_succ_self _) H locs (hP.sub [3, 0, 1, 2] rfl) (hD.sub [3, 0, 1, 2] (by decide) rfl) hS ls (lv_sub hl [2, 3, 1, 0] rfl)
abbrev rm_c_X6_squarings_no : Room := { frames := 2, cells := 0, slots := 0, locals := 45 }
abbrev q_c_X6_squarings_no (D : va_G) (sz : Nat) (mo : Nat) (ra : Nat) (ca : Nat) (ha : Nat) (ba : Nat) (wa : Nat) (kp : Nat) (hd : Nat) (kr : ClassId) (kc : ClassId) (kh : ClassId) (th : Nat) (rf : Nat → Nat) (cf : Nat → Nat) (hf : Nat → Nat) (x0 : Int32) : Array Value → State → Outcome → State → Prop := va_Qi (fun r (_ : Unit) => r = (nI 0)) (fun (_ : Unit) t => va_P D vwCl [(mo, .inr (8, [.int (nI 1), .ref ra, .ref ca, .ref ha, .int (nI kp), .ref ba, .int (nI hd), .ref wa])), (ra, .inl (kr, 8, .inl (aN rf))), (ca, .inl (kc, 8, .inl (aN cf))), (ha, .inl (kh, 8, .inl (aN hf)))] t.heap ∧ va_K D vwCl [(kr, .int), (kc, .int), (kh, .int)] t ∧ va_D (va_A [(mo, .inr (8, [.int (nI th), .ref ra, .ref ca, .ref ha, .int (nI kp), .ref ba, .int (nI hd), .ref wa])), (ra, .inl (kr, 8, .inl (aN rf))), (ca, .inl (kc, 8, .inl (aN cf))), (ha, .inl (kh, 8, .inl (aN hf)))] sz) [(mo, .inr (8, [.int (nI 1), .ref ra, .ref ca, .ref ha, .int (nI kp), .ref ba, .int (nI hd), .ref wa])), (ra, .inl (kr, 8, .inl (aN rf))), (ca, .inl (kc, 8, .inl (aN cf))), (ha, .inl (kh, 8, .inl (aN hf)))]) (va_A [(mo, .inr (8, [.int (nI th), .ref ra, .ref ca, .ref ha, .int (nI kp), .ref ba, .int (nI hd), .ref wa])), (ra, .inl (kr, 8, .inl (aN rf))), (ca, .inl (kc, 8, .inl (aN cf))), (ha, .inl (kh, 8, .inl (aN hf)))] sz)
set_option maxHeartbeats 4000000 in
set_option maxRecDepth 100000 in
theorem c_X6_squarings_no (l : Launch) (D : va_G) (sz : Nat) (mo : Nat) (ra : Nat) (ca : Nat) (ha : Nat) (ba : Nat) (wa : Nat) (kp : Nat) (hd : Nat) (kr : ClassId) (kc : ClassId) (kh : ClassId) (th : Nat) (rf : Nat → Nat) (cf : Nat → Nat) (hf : Nat → Nat) (x0 : Int32) (hrf : ∀ k, k < 8 → rf k < 256) (hkp : kp ≤ 8) (hno : inN 8 x0 = false) : Met l yX6_squarings wsX6_squarings rm_c_X6_squarings_no (va_Pc [.ref mo, .int x0] (fun U => U.heap.size = sz ∧ va_P D vwCl [(mo, .inr (8, [.int (nI th), .ref ra, .ref ca, .ref ha, .int (nI kp), .ref ba, .int (nI hd), .ref wa])), (ra, .inl (kr, 8, .inl (aN rf))), (ca, .inl (kc, 8, .inl (aN cf))), (ha, .inl (kh, 8, .inl (aN hf)))] U.heap ∧ va_K D vwCl [(kr, .int), (kc, .int), (kh, .int)] U ∧ va_D (fun _ => True) [(mo, .inr (8, [.int (nI th), .ref ra, .ref ca, .ref ha, .int (nI kp), .ref ba, .int (nI hd), .ref wa])), (ra, .inl (kr, 8, .inl (aN rf))), (ca, .inl (kc, 8, .inl (aN cf))), (ha, .inl (kh, 8, .inl (aN hf)))])) (q_c_X6_squarings_no D sz mo ra ca ha ba wa kp hd kr kc kh th rf cf hf x0) 0 0 (va_A [(mo, .inr (8, [.int (nI th), .ref ra, .ref ca, .ref ha, .int (nI kp), .ref ba, .int (nI hd), .ref wa])), (ra, .inl (kr, 8, .inl (aN rf))), (ca, .inl (kc, 8, .inl (aN cf))), (ha, .inl (kh, 8, .inl (aN hf)))] sz) := by
  refine Met.ofW (cc := cX6_squarings) (maxL := 4) (ret := (some .int)) (by decide) rfl ?_
  intro p e s m args below meth c s₁ B hml hv
  obtain ⟨hargs, hsz, hP, hK, hD0⟩ := hv
  have hx := B.exec
  have hb := B.bytes
  have hr := B.returns
  have hts := atoms_spec (ws := wsX6_squarings) B.pre
  have hown : s.vm.findClass RX6 = some m.cls := findClass_of_methodNamed B.named
  have hlocks := B.notSynchronized
  subst hsz
  have hD := hD0.self (sz := s.heap.size)
  generalize hAe : va_A [(mo, .inr (8, [.int (nI th), .ref ra, .ref ca, .ref ha, .int (nI kp), .ref ba, .int (nI hd), .ref wa])), (ra, .inl (kr, 8, .inl (aN rf))), (ca, .inl (kc, 8, .inl (aN cf))), (ha, .inl (kh, 8, .inl (aN hf)))] s.heap.size = A at hD ⊢
  have hA : ∀ q : Nat, s.heap.size ≤ q → A q := fun q h => by rw [← hAe]; exact Or.inr h
  have hS : va_S A s.heap s.heap [] := va_S.rf
  have hl := lv_entry ([.ref mo, .int x0]) (n := 4) (Nat.le_of_ble_eq_true rfl)
  refine W.eq (g2 := F0 m 0 (lg_sl ([.ref mo, .int x0]) ++ List.replicate (4 - (lg_sl ([.ref mo, .int x0])).length) Slot.unset).toArray []) (by rw [hargs]; exact lg_entry_eq _ _ _) ?_
  generalize (lg_sl ([.ref mo, .int x0]) ++ List.replicate (4 - (lg_sl ([.ref mo, .int x0])).length) Slot.unset).toArray = ls at hl ⊢
  have hl : lv_has ls 4 [(0, .ref mo), (1, .int x0)] := hl
  refine lv_aload_n hx hb dX6_squarings_0 rfl (lv_at hl 0 rfl) ?_
  refine lv_iload_n hx hb dX6_squarings_1 rfl (lv_at hl 1 rfl) ?_
  refine lv_iconst (v := nI 0) hx hb dX6_squarings_2 zki_0 ?_
  refine lv_iconst (v := nI 0) hx hb dX6_squarings_3 zki_0 ?_
  have hPc := hP.sub (ws' := [(mo, .inr (8, [.int (nI th), .ref ra, .ref ca, .ref ha, .int (nI kp), .ref ba, .int (nI hd), .ref wa]))]) [0] rfl
  have hDc := hD.sub (ws' := [(mo, .inr (8, [.int (nI th), .ref ra, .ref ca, .ref ha, .int (nI kp), .ref ba, .int (nI hd), .ref wa]))]) [0] (by decide) rfl
  have hKc := hK.sub (tys' := []) [] rfl
  have hFc := va_free (wc := [(mo, .inr (8, [.int (nI th), .ref ra, .ref ca, .ref ha, .int (nI kp), .ref ba, .int (nI hd), .ref wa]))]) hD hS hA [0] rfl
  refine va_calli (va_runV (As := [.int x0, .int (nI 0), .int (nI 0)]) (rest := []) ⟨hx, hb, hml, hown, hts⟩ (c_X6_areNone_no l D s.heap.size mo ra ca ha ba wa kp hd th x0 (nI 0) (nI 0) (by rw [ok3_1]; exact hno)) (cwV 3 hts gX6_squarings_X6_areNone rfl rfl rfl (by decide +kernel) ⟨Nat.le_of_ble_eq_true rfl, Nat.le_of_ble_eq_true rfl⟩) ⟨(z_fb2), va_recv hK hP (ci := 8) (q0 := 0) rfl rfl, fun U hU hW => ⟨rfl, by rw [hU], by rw [hU]; exact hPc, va_K.moved hW.alike hKc, hDc.weaken (fun _ _ _ _ => trivial)⟩⟩ rfl rfl hl.1 rfl (lv_room (Nat.le_of_ble_eq_true rfl)) dX6_squarings_4 ⟨Nat.le_of_ble_eq_true rfl, Nat.le_of_ble_eq_true rfl⟩) hS (fun q _ h => hFc q h) hFc (fun r4 u4 t H locs ht hvm e4 hB hz1 hk1 hS => ?_)
  obtain ⟨hP1, hK1, hD1⟩ := hB
  rw [ht] at hP1
  obtain ⟨hP, hD⟩ := va_join (wr := [(ra, .inl (kr, 8, .inl (aN rf))), (ca, .inl (kc, 8, .inl (aN cf))), (ha, .inl (kh, 8, .inl (aN hf)))]) (w1 := [(mo, .inr (8, [.int (nI 1), .ref ra, .ref ca, .ref ha, .int (nI kp), .ref ba, .int (nI hd), .ref wa]))]) hP hD [0] [1, 2, 3] rfl rfl (by decide) (by decide) hk1 hFc hP1 hD1
  have hP : va_P D vwCl [(ra, .inl (kr, 8, .inl (aN rf))), (ca, .inl (kc, 8, .inl (aN cf))), (ha, .inl (kh, 8, .inl (aN hf))), (mo, .inr (8, [.int (nI 1), .ref ra, .ref ca, .ref ha, .int (nI kp), .ref ba, .int (nI hd), .ref wa]))] H := hP
  have hD : va_D A [(ra, .inl (kr, 8, .inl (aN rf))), (ca, .inl (kc, 8, .inl (aN cf))), (ha, .inl (kh, 8, .inl (aN hf))), (mo, .inr (8, [.int (nI 1), .ref ra, .ref ca, .ref ha, .int (nI kp), .ref ba, .int (nI hd), .ref wa]))] := hD
  refine W.widen (k := 0) (n := 0) (Nat.le_of_ble_eq_true rfl) (Nat.le_of_ble_eq_true rfl) ?_
  subst e4
  refine z_beq (tgt := 12) hx hb dX6_squarings_7 (by decide) (fun c_7 => absurd c_7 (by decide)) (fun c_7 => ?_)
  refine lv_iconst (v := nI 0) hx hb dX6_squarings_10 zki_0 ?_
  have hP9 := hP.sub (ws' := [(mo, .inr (8, [.int (nI 1), .ref ra, .ref ca, .ref ha, .int (nI kp), .ref ba, .int (nI hd), .ref wa])), (ra, .inl (kr, 8, .inl (aN rf))), (ca, .inl (kc, 8, .inl (aN cf))), (ha, .inl (kh, 8, .inl (aN hf)))]) [3, 0, 1, 2] rfl
  have hD9 := hD.sub (ws' := [(mo, .inr (8, [.int (nI 1), .ref ra, .ref ca, .ref ha, .int (nI kp), .ref ba, .int (nI hd), .ref wa])), (ra, .inl (kr, 8, .inl (aN rf))), (ca, .inl (kc, 8, .inl (aN cf))), (ha, .inl (kh, 8, .inl (aN hf)))]) [3, 0, 1, 2] (by decide) rfl
  have hK9 := hK.sub (tys' := [(kr, .int), (kc, .int), (kh, .int)]) [0, 1, 2] rfl
  subst hAe
  refine W.widen (k := 0) (n := 0) (Nat.le_of_ble_eq_true rfl) (Nat.le_of_ble_eq_true rfl) ?_
  exact W.iret hx hb hr (fun t ht hW => ⟨⟨_, (), rfl, (rfl), by rw [ht]; exact hP9, va_K.moved hW.alike hK9, hD9⟩, hS.F ht⟩) hS.2.2 dX6_squarings_11
abbrev rm_c_X6_set_ok : Room := { frames := 2, cells := 0, slots := 0, locals := 45 }
abbrev q_c_X6_set_ok (D : va_G) (sz : Nat) (mo : Nat) (ra : Nat) (ca : Nat) (ha : Nat) (ba : Nat) (wa : Nat) (kp : Nat) (hd : Nat) (kr : ClassId) (kc : ClassId) (kh : ClassId) (th : Nat) (rf : Nat → Nat) (cf : Nat → Nat) (hf : Nat → Nat) (j : Nat) (v : Nat) : Array Value → State → Outcome → State → Prop := va_Qi (fun r (_ : Unit) => r = (nI (rf j))) (fun (_ : Unit) t => va_P D vwCl [(mo, .inr (8, [.int (nI 0), .ref ra, .ref ca, .ref ha, .int (nI (min kp 7 + 1)), .ref ba, .int (nI hd), .ref wa])), (ra, .inl (kr, 8, .inl (aN (va_up rf j v)))), (ca, .inl (kc, 8, .inl (aN (rng cf kp j)))), (ha, .inl (kh, 8, .inl (aN (rng hf kp (rf j)))))] t.heap ∧ va_K D vwCl [(kr, .int), (kc, .int), (kh, .int)] t ∧ va_D (va_A [(mo, .inr (8, [.int (nI th), .ref ra, .ref ca, .ref ha, .int (nI kp), .ref ba, .int (nI hd), .ref wa])), (ra, .inl (kr, 8, .inl (aN rf))), (ca, .inl (kc, 8, .inl (aN cf))), (ha, .inl (kh, 8, .inl (aN hf)))] sz) [(mo, .inr (8, [.int (nI 0), .ref ra, .ref ca, .ref ha, .int (nI (min kp 7 + 1)), .ref ba, .int (nI hd), .ref wa])), (ra, .inl (kr, 8, .inl (aN (va_up rf j v)))), (ca, .inl (kc, 8, .inl (aN (rng cf kp j)))), (ha, .inl (kh, 8, .inl (aN (rng hf kp (rf j)))))]) (va_A [(mo, .inr (8, [.int (nI th), .ref ra, .ref ca, .ref ha, .int (nI kp), .ref ba, .int (nI hd), .ref wa])), (ra, .inl (kr, 8, .inl (aN rf))), (ca, .inl (kc, 8, .inl (aN cf))), (ha, .inl (kh, 8, .inl (aN hf)))] sz)
set_option maxHeartbeats 4000000 in
set_option maxRecDepth 100000 in
theorem c_X6_set_ok (l : Launch) (D : va_G) (sz : Nat) (mo : Nat) (ra : Nat) (ca : Nat) (ha : Nat) (ba : Nat) (wa : Nat) (kp : Nat) (hd : Nat) (kr : ClassId) (kc : ClassId) (kh : ClassId) (th : Nat) (rf : Nat → Nat) (cf : Nat → Nat) (hf : Nat → Nat) (j : Nat) (v : Nat) (hrf : ∀ k, k < 8 → rf k < 256) (hkp : kp ≤ 8) (hj : j < 8) (hv8 : v < 256) : Met l yX6_set wsX6_set rm_c_X6_set_ok (va_Pc [.ref mo, .int (nI j), .int (nI v)] (fun U => U.heap.size = sz ∧ va_P D vwCl [(mo, .inr (8, [.int (nI th), .ref ra, .ref ca, .ref ha, .int (nI kp), .ref ba, .int (nI hd), .ref wa])), (ra, .inl (kr, 8, .inl (aN rf))), (ca, .inl (kc, 8, .inl (aN cf))), (ha, .inl (kh, 8, .inl (aN hf)))] U.heap ∧ va_K D vwCl [(kr, .int), (kc, .int), (kh, .int)] U ∧ va_D (fun _ => True) [(mo, .inr (8, [.int (nI th), .ref ra, .ref ca, .ref ha, .int (nI kp), .ref ba, .int (nI hd), .ref wa])), (ra, .inl (kr, 8, .inl (aN rf))), (ca, .inl (kc, 8, .inl (aN cf))), (ha, .inl (kh, 8, .inl (aN hf)))])) (q_c_X6_set_ok D sz mo ra ca ha ba wa kp hd kr kc kh th rf cf hf j v) 0 0 (va_A [(mo, .inr (8, [.int (nI th), .ref ra, .ref ca, .ref ha, .int (nI kp), .ref ba, .int (nI hd), .ref wa])), (ra, .inl (kr, 8, .inl (aN rf))), (ca, .inl (kc, 8, .inl (aN cf))), (ha, .inl (kh, 8, .inl (aN hf)))] sz) := by
  refine Met.ofW (cc := cX6_set) (maxL := 5) (ret := (some .int)) (by decide) rfl ?_
  intro p e s m args below meth c s₁ B hml hv
  obtain ⟨hargs, hsz, hP, hK, hD0⟩ := hv
  have hx := B.exec
  have hb := B.bytes
  have hr := B.returns
  have hts := atoms_spec (ws := wsX6_set) B.pre
  have hown : s.vm.findClass RX6 = some m.cls := findClass_of_methodNamed B.named
  have hlocks := B.notSynchronized
  subst hsz
  have hD := hD0.self (sz := s.heap.size)
  generalize hAe : va_A [(mo, .inr (8, [.int (nI th), .ref ra, .ref ca, .ref ha, .int (nI kp), .ref ba, .int (nI hd), .ref wa])), (ra, .inl (kr, 8, .inl (aN rf))), (ca, .inl (kc, 8, .inl (aN cf))), (ha, .inl (kh, 8, .inl (aN hf)))] s.heap.size = A at hD ⊢
  have hA : ∀ q : Nat, s.heap.size ≤ q → A q := fun q h => by rw [← hAe]; exact Or.inr h
  have hS : va_S A s.heap s.heap [] := va_S.rf
  have hl := lv_entry ([.ref mo, .int (nI j), .int (nI v)]) (n := 5) (Nat.le_of_ble_eq_true rfl)
  refine W.eq (g2 := F0 m 0 (lg_sl ([.ref mo, .int (nI j), .int (nI v)]) ++ List.replicate (5 - (lg_sl ([.ref mo, .int (nI j), .int (nI v)])).length) Slot.unset).toArray []) (by rw [hargs]; exact lg_entry_eq _ _ _) ?_
  generalize (lg_sl ([.ref mo, .int (nI j), .int (nI v)]) ++ List.replicate (5 - (lg_sl ([.ref mo, .int (nI j), .int (nI v)])).length) Slot.unset).toArray = ls at hl ⊢
  have hl : lv_has ls 5 [(0, .ref mo), (1, .int (nI j)), (2, .int (nI v))] := hl
  refine lv_aload_n hx hb dX6_set_0 rfl (lv_at hl 0 rfl) ?_
  refine lv_iload_n hx hb dX6_set_1 rfl (lv_at hl 1 rfl) ?_
  refine lv_iconst (v := nI 0) hx hb dX6_set_2 zki_0 ?_
  refine lv_iconst (v := nI 0) hx hb dX6_set_3 zki_0 ?_
  have hPc := hP.sub (ws' := [(mo, .inr (8, [.int (nI th), .ref ra, .ref ca, .ref ha, .int (nI kp), .ref ba, .int (nI hd), .ref wa]))]) [0] rfl
  have hDc := hD.sub (ws' := [(mo, .inr (8, [.int (nI th), .ref ra, .ref ca, .ref ha, .int (nI kp), .ref ba, .int (nI hd), .ref wa]))]) [0] (by decide) rfl
  have hKc := hK.sub (tys' := []) [] rfl
  have hFc := va_free (wc := [(mo, .inr (8, [.int (nI th), .ref ra, .ref ca, .ref ha, .int (nI kp), .ref ba, .int (nI hd), .ref wa]))]) hD hS hA [0] rfl
  refine va_calli (va_runV (As := [.int (nI j), .int (nI 0), .int (nI 0)]) (rest := []) ⟨hx, hb, hml, hown, hts⟩ (c_X6_areNone_ok l D s.heap.size mo ra ca ha ba wa kp hd th j 0 0 (by omega) (by omega) (by omega)) (cwV 3 hts gX6_set_X6_areNone rfl rfl rfl (by decide +kernel) ⟨Nat.le_of_ble_eq_true rfl, Nat.le_of_ble_eq_true rfl⟩) ⟨(z_fb2), va_recv hK hP (ci := 8) (q0 := 0) rfl rfl, fun U hU hW => ⟨rfl, by rw [hU], by rw [hU]; exact hPc, va_K.moved hW.alike hKc, hDc.weaken (fun _ _ _ _ => trivial)⟩⟩ rfl rfl hl.1 rfl (lv_room (Nat.le_of_ble_eq_true rfl)) dX6_set_4 ⟨Nat.le_of_ble_eq_true rfl, Nat.le_of_ble_eq_true rfl⟩) hS (fun q _ h => hFc q h) hFc (fun r4 u4 t H locs ht hvm e4 hB hz1 hk1 hS => ?_)
  obtain ⟨hP1, hK1, hD1⟩ := hB
  rw [ht] at hP1
  obtain ⟨hP, hD⟩ := va_join (wr := [(ra, .inl (kr, 8, .inl (aN rf))), (ca, .inl (kc, 8, .inl (aN cf))), (ha, .inl (kh, 8, .inl (aN hf)))]) (w1 := [(mo, .inr (8, [.int (nI 0), .ref ra, .ref ca, .ref ha, .int (nI kp), .ref ba, .int (nI hd), .ref wa]))]) hP hD [0] [1, 2, 3] rfl rfl (by decide) (by decide) hk1 hFc hP1 hD1
  have hP : va_P D vwCl [(ra, .inl (kr, 8, .inl (aN rf))), (ca, .inl (kc, 8, .inl (aN cf))), (ha, .inl (kh, 8, .inl (aN hf))), (mo, .inr (8, [.int (nI 0), .ref ra, .ref ca, .ref ha, .int (nI kp), .ref ba, .int (nI hd), .ref wa]))] H := hP
  have hD : va_D A [(ra, .inl (kr, 8, .inl (aN rf))), (ca, .inl (kc, 8, .inl (aN cf))), (ha, .inl (kh, 8, .inl (aN hf))), (mo, .inr (8, [.int (nI 0), .ref ra, .ref ca, .ref ha, .int (nI kp), .ref ba, .int (nI hd), .ref wa]))] := hD
  refine W.widen (k := 0) (n := 0) (Nat.le_of_ble_eq_true rfl) (Nat.le_of_ble_eq_true rfl) ?_
  subst e4
  refine z_bne (tgt := 33) hx hb dX6_set_7 (by decide) (fun c_7 => absurd c_7 (by decide)) (fun c_7 => ?_)
  refine lv_aload_n hx hb dX6_set_10 rfl (lv_at hl 0 rfl) ?_
  refine lv_iload_n hx hb dX6_set_11 rfl (lv_at hl 2 rfl) ?_
  refine lv_sipush (v := nI 256) hx hb dX6_set_12 zks_256 ?_
  refine z_ci (va_runS (As := [.int (nI v), .int (nI 256)]) (rest := [.ref mo]) ⟨hx, hb, hml, hown, hts⟩ (c_X6_isNumber_ok l D v 256 (by omega) (by omega)) (va_cwS 2 hts gX6_set_X6_isNumber rfl rfl rfl (by decide +kernel) ⟨Nat.le_of_ble_eq_true rfl, Nat.le_of_ble_eq_true rfl⟩) ⟨z_fb0, fun U hU hW => ⟨rfl, trivial⟩⟩ rfl rfl hl.1 rfl (lv_room (Nat.le_of_ble_eq_true rfl)) dX6_set_15 ⟨Nat.le_of_ble_eq_true rfl, Nat.le_of_ble_eq_true rfl⟩) (fun r15 e15 => ?_)
  subst e15
  refine z_bne (tgt := 25) hx hb dX6_set_18 (by decide) (fun c_18 => ?_) (fun c_18 => absurd c_18 (by decide))
  refine lv_iconst (v := nI 0) hx hb dX6_set_25 zki_0 ?_
  refine lv_iconst (v := nI 2) hx hb dX6_set_26 zki_2 ?_
  have hPc := hP.sub (ws' := [(mo, .inr (8, [.int (nI 0), .ref ra, .ref ca, .ref ha, .int (nI kp), .ref ba, .int (nI hd), .ref wa]))]) [3] rfl
  have hDc := hD.sub (ws' := [(mo, .inr (8, [.int (nI 0), .ref ra, .ref ca, .ref ha, .int (nI kp), .ref ba, .int (nI hd), .ref wa]))]) [3] (by decide) rfl
  have hKc := hK.sub (tys' := []) [] rfl
  have hFc := va_free (wc := [(mo, .inr (8, [.int (nI 0), .ref ra, .ref ca, .ref ha, .int (nI kp), .ref ba, .int (nI hd), .ref wa]))]) hD hS hA [3] rfl
  refine va_calli (va_runV (As := [.int (nI 0), .int (nI 2)]) (rest := []) ⟨hx, hb, hml, hown, hts⟩ (c_X6_fails_false l D H.size mo ra ca ha ba wa kp hd 2 (by omega) (by omega)) (cwV 2 hts gX6_set_X6_fails rfl rfl rfl (by decide +kernel) ⟨Nat.le_of_ble_eq_true rfl, Nat.le_of_ble_eq_true rfl⟩) ⟨(z_fb2), va_recv hK hP (ci := 8) (q0 := 3) rfl rfl, fun U hU hW => ⟨rfl, by rw [hU], by rw [hU]; exact hPc, va_K.moved hW.alike hKc, hDc.weaken (fun _ _ _ _ => trivial)⟩⟩ rfl rfl hl.1 rfl (lv_room (Nat.le_of_ble_eq_true rfl)) dX6_set_27 ⟨Nat.le_of_ble_eq_true rfl, Nat.le_of_ble_eq_true rfl⟩) hS (fun q _ h => hFc q h) hFc (fun r27 u27 t H locs ht hvm e27 hB hz1 hk1 hS => ?_)
  obtain ⟨hP1, hK1, hD1⟩ := hB
  rw [ht] at hP1
  obtain ⟨hP, hD⟩ := va_join (wr := [(ra, .inl (kr, 8, .inl (aN rf))), (ca, .inl (kc, 8, .inl (aN cf))), (ha, .inl (kh, 8, .inl (aN hf)))]) (w1 := [(mo, .inr (8, [.int (nI 0), .ref ra, .ref ca, .ref ha, .int (nI kp), .ref ba, .int (nI hd), .ref wa]))]) hP hD [3] [0, 1, 2] rfl rfl (by decide) (by decide) hk1 hFc hP1 hD1
  have hP : va_P D vwCl [(ra, .inl (kr, 8, .inl (aN rf))), (ca, .inl (kc, 8, .inl (aN cf))), (ha, .inl (kh, 8, .inl (aN hf))), (mo, .inr (8, [.int (nI 0), .ref ra, .ref ca, .ref ha, .int (nI kp), .ref ba, .int (nI hd), .ref wa]))] H := hP
  have hD : va_D A [(ra, .inl (kr, 8, .inl (aN rf))), (ca, .inl (kc, 8, .inl (aN cf))), (ha, .inl (kh, 8, .inl (aN hf))), (mo, .inr (8, [.int (nI 0), .ref ra, .ref ca, .ref ha, .int (nI kp), .ref ba, .int (nI hd), .ref wa]))] := hD
  refine W.widen (k := 0) (n := 0) (Nat.le_of_ble_eq_true rfl) (Nat.le_of_ble_eq_true rfl) ?_
  subst e27
  refine z_beq (tgt := 35) hx hb dX6_set_30 (by decide) (fun c_30 => ?_) (fun c_30 => absurd c_30 (by decide))
  refine lv_aload_n hx hb dX6_set_35 rfl (lv_at hl 0 rfl) ?_
  have hr_j : rf j < 256 := hrf _ (by omega)
  refine va_get (D := D) (ci := 8) (v := .ref ra) (C := RX6) (T := TX6) (N := 8) hx hb hts nX6_set_inX6 hown hK hP 3 rfl rfl 1 (by decide) (hts (.fieldLink RX6 9 "GamefieldModel" "registers" "[I") (by decide +kernel)) (fun _ h9 => h9) rfl dX6_set_36 ?_
  refine lv_iload_n hx hb dX6_set_39 rfl (lv_at hl 1 rfl) ?_
  refine z_iald hx hb hK hP 0 0 rfl rfl (by omega) (by decide) dX6_set_40 ?_
  refine lv_istore_n (lv' := [(3, .int (nI (rf j))), (0, .ref mo), (1, .int (nI j)), (2, .int (nI v))]) hx hb dX6_set_41 rfl hl (by decide) rfl (fun ls hl => ?_)
  refine lv_aload_n hx hb dX6_set_42 rfl (lv_at hl 1 rfl) ?_
  refine lv_iload_n hx hb dX6_set_43 rfl (lv_at hl 2 rfl) ?_
  refine lv_iload_n hx hb dX6_set_44 rfl (lv_at hl 3 rfl) ?_
  have hPc := hP.sub (ws' := [(mo, .inr (8, [.int (nI 0), .ref ra, .ref ca, .ref ha, .int (nI kp), .ref ba, .int (nI hd), .ref wa])), (ra, .inl (kr, 8, .inl (aN rf))), (ca, .inl (kc, 8, .inl (aN cf))), (ha, .inl (kh, 8, .inl (aN hf)))]) [3, 0, 1, 2] rfl
  have hDc := hD.sub (ws' := [(mo, .inr (8, [.int (nI 0), .ref ra, .ref ca, .ref ha, .int (nI kp), .ref ba, .int (nI hd), .ref wa])), (ra, .inl (kr, 8, .inl (aN rf))), (ca, .inl (kc, 8, .inl (aN cf))), (ha, .inl (kh, 8, .inl (aN hf)))]) [3, 0, 1, 2] (by decide) rfl
  have hKc := hK.sub (tys' := [(kr, .int), (kc, .int), (kh, .int)]) [0, 1, 2] rfl
  have hFc := va_free (wc := [(mo, .inr (8, [.int (nI 0), .ref ra, .ref ca, .ref ha, .int (nI kp), .ref ba, .int (nI hd), .ref wa])), (ra, .inl (kr, 8, .inl (aN rf))), (ca, .inl (kc, 8, .inl (aN cf))), (ha, .inl (kh, 8, .inl (aN hf)))]) hD hS hA [3, 0, 1, 2] rfl
  refine va_calli (va_runV (As := [.int (nI j), .int (nI v)]) (rest := []) ⟨hx, hb, hml, hown, hts⟩ (c_X6_becomes l D H.size mo ra ca ha ba wa kp hd kr kc kh 0 rf cf hf j v (by omega) (by omega) (by omega) (by omega)) (cwV 2 hts gX6_set_X6_becomes rfl rfl rfl (by decide +kernel) ⟨Nat.le_of_ble_eq_true rfl, Nat.le_of_ble_eq_true rfl⟩) ⟨(z_fb2), va_recv hK hP (ci := 8) (q0 := 3) rfl rfl, fun U hU hW => ⟨rfl, by rw [hU], by rw [hU]; exact hPc, va_K.moved hW.alike hKc, hDc.weaken (fun _ _ _ _ => trivial)⟩⟩ rfl rfl hl.1 rfl (lv_room (Nat.le_of_ble_eq_true rfl)) dX6_set_45 ⟨Nat.le_of_ble_eq_true rfl, Nat.le_of_ble_eq_true rfl⟩) hS (fun q _ h => hFc q h) hFc (fun r45 u45 t H locs ht hvm e45 hB hz1 hk1 hS => ?_)
  obtain ⟨hP1, hK1, hD1⟩ := hB
  rw [ht] at hP1
  obtain ⟨hP, hD⟩ := va_join (wr := []) (w1 := [(mo, .inr (8, [.int (nI 0), .ref ra, .ref ca, .ref ha, .int (nI (min kp 7 + 1)), .ref ba, .int (nI hd), .ref wa])), (ra, .inl (kr, 8, .inl (aN (va_up rf j v)))), (ca, .inl (kc, 8, .inl (aN (rng cf kp j)))), (ha, .inl (kh, 8, .inl (aN (rng hf kp (rf j)))))]) hP hD [3, 0, 1, 2] [] rfl rfl (by decide) (by decide) hk1 hFc hP1 hD1
  have hP : va_P D vwCl [(mo, .inr (8, [.int (nI 0), .ref ra, .ref ca, .ref ha, .int (nI (min kp 7 + 1)), .ref ba, .int (nI hd), .ref wa])), (ra, .inl (kr, 8, .inl (aN (va_up rf j v)))), (ca, .inl (kc, 8, .inl (aN (rng cf kp j)))), (ha, .inl (kh, 8, .inl (aN (rng hf kp (rf j)))))] H := hP
  have hD : va_D A [(mo, .inr (8, [.int (nI 0), .ref ra, .ref ca, .ref ha, .int (nI (min kp 7 + 1)), .ref ba, .int (nI hd), .ref wa])), (ra, .inl (kr, 8, .inl (aN (va_up rf j v)))), (ca, .inl (kc, 8, .inl (aN (rng cf kp j)))), (ha, .inl (kh, 8, .inl (aN (rng hf kp (rf j)))))] := hD
  refine W.widen (k := 0) (n := 0) (Nat.le_of_ble_eq_true rfl) (Nat.le_of_ble_eq_true rfl) ?_
  subst e45
  refine lv_istore (lv' := [(4, .int (nI v)), (3, .int (nI (rf j))), (0, .ref mo), (1, .int (nI j)), (2, .int (nI v))]) hx hb dX6_set_48 hl (by decide) rfl (fun ls hl => ?_)
  refine lv_iload hx hb dX6_set_50 (lv_at hl 0 rfl) ?_
  refine lv_iload_n hx hb dX6_set_52 rfl (lv_at hl 4 rfl) ?_
  refine z_cne (tgt := 60) hx hb (by omega) (by omega) dX6_set_53 (by decide) (fun c_53 => absurd rfl c_53) (fun c_53 => ?_)
  refine lv_iload_n hx hb dX6_set_56 rfl (lv_at hl 1 rfl) ?_
  refine lv_goto (tgt := 61) hx hb dX6_set_57 (by decide) ?_
  have hP9 := hP.sub (ws' := [(mo, .inr (8, [.int (nI 0), .ref ra, .ref ca, .ref ha, .int (nI (min kp 7 + 1)), .ref ba, .int (nI hd), .ref wa])), (ra, .inl (kr, 8, .inl (aN (va_up rf j v)))), (ca, .inl (kc, 8, .inl (aN (rng cf kp j)))), (ha, .inl (kh, 8, .inl (aN (rng hf kp (rf j)))))]) [0, 1, 2, 3] rfl
  have hD9 := hD.sub (ws' := [(mo, .inr (8, [.int (nI 0), .ref ra, .ref ca, .ref ha, .int (nI (min kp 7 + 1)), .ref ba, .int (nI hd), .ref wa])), (ra, .inl (kr, 8, .inl (aN (va_up rf j v)))), (ca, .inl (kc, 8, .inl (aN (rng cf kp j)))), (ha, .inl (kh, 8, .inl (aN (rng hf kp (rf j)))))]) [0, 1, 2, 3] (by decide) rfl
  have hK9 := hK.sub (tys' := [(kr, .int), (kc, .int), (kh, .int)]) [0, 1, 2] rfl
  subst hAe
  refine W.widen (k := 0) (n := 0) (Nat.le_of_ble_eq_true rfl) (Nat.le_of_ble_eq_true rfl) ?_
  exact W.iret hx hb hr (fun t ht hW => ⟨⟨_, (), rfl, (rfl), by rw [ht]; exact hP9, va_K.moved hW.alike hK9, hD9⟩, hS.F ht⟩) hS.2.2 dX6_set_61
abbrev rm_c_X6_set_no : Room := { frames := 2, cells := 0, slots := 0, locals := 45 }
abbrev q_c_X6_set_no (D : va_G) (sz : Nat) (mo : Nat) (ra : Nat) (ca : Nat) (ha : Nat) (ba : Nat) (wa : Nat) (kp : Nat) (hd : Nat) (kr : ClassId) (kc : ClassId) (kh : ClassId) (th : Nat) (rf : Nat → Nat) (cf : Nat → Nat) (hf : Nat → Nat) (x0 : Int32) (y : Int32) : Array Value → State → Outcome → State → Prop := va_Qi (fun r (_ : Unit) => r = (nI 0)) (fun (_ : Unit) t => va_P D vwCl [(mo, .inr (8, [.int (nI 1), .ref ra, .ref ca, .ref ha, .int (nI kp), .ref ba, .int (nI hd), .ref wa])), (ra, .inl (kr, 8, .inl (aN rf))), (ca, .inl (kc, 8, .inl (aN cf))), (ha, .inl (kh, 8, .inl (aN hf)))] t.heap ∧ va_K D vwCl [(kr, .int), (kc, .int), (kh, .int)] t ∧ va_D (va_A [(mo, .inr (8, [.int (nI th), .ref ra, .ref ca, .ref ha, .int (nI kp), .ref ba, .int (nI hd), .ref wa])), (ra, .inl (kr, 8, .inl (aN rf))), (ca, .inl (kc, 8, .inl (aN cf))), (ha, .inl (kh, 8, .inl (aN hf)))] sz) [(mo, .inr (8, [.int (nI 1), .ref ra, .ref ca, .ref ha, .int (nI kp), .ref ba, .int (nI hd), .ref wa])), (ra, .inl (kr, 8, .inl (aN rf))), (ca, .inl (kc, 8, .inl (aN cf))), (ha, .inl (kh, 8, .inl (aN hf)))]) (va_A [(mo, .inr (8, [.int (nI th), .ref ra, .ref ca, .ref ha, .int (nI kp), .ref ba, .int (nI hd), .ref wa])), (ra, .inl (kr, 8, .inl (aN rf))), (ca, .inl (kc, 8, .inl (aN cf))), (ha, .inl (kh, 8, .inl (aN hf)))] sz)
set_option maxHeartbeats 4000000 in
set_option maxRecDepth 100000 in
theorem c_X6_set_no (l : Launch) (D : va_G) (sz : Nat) (mo : Nat) (ra : Nat) (ca : Nat) (ha : Nat) (ba : Nat) (wa : Nat) (kp : Nat) (hd : Nat) (kr : ClassId) (kc : ClassId) (kh : ClassId) (th : Nat) (rf : Nat → Nat) (cf : Nat → Nat) (hf : Nat → Nat) (x0 : Int32) (y : Int32) (hrf : ∀ k, k < 8 → rf k < 256) (hkp : kp ≤ 8) (hno : inN 8 x0 = false) : Met l yX6_set wsX6_set rm_c_X6_set_no (va_Pc [.ref mo, .int x0, .int y] (fun U => U.heap.size = sz ∧ va_P D vwCl [(mo, .inr (8, [.int (nI th), .ref ra, .ref ca, .ref ha, .int (nI kp), .ref ba, .int (nI hd), .ref wa])), (ra, .inl (kr, 8, .inl (aN rf))), (ca, .inl (kc, 8, .inl (aN cf))), (ha, .inl (kh, 8, .inl (aN hf)))] U.heap ∧ va_K D vwCl [(kr, .int), (kc, .int), (kh, .int)] U ∧ va_D (fun _ => True) [(mo, .inr (8, [.int (nI th), .ref ra, .ref ca, .ref ha, .int (nI kp), .ref ba, .int (nI hd), .ref wa])), (ra, .inl (kr, 8, .inl (aN rf))), (ca, .inl (kc, 8, .inl (aN cf))), (ha, .inl (kh, 8, .inl (aN hf)))])) (q_c_X6_set_no D sz mo ra ca ha ba wa kp hd kr kc kh th rf cf hf x0 y) 0 0 (va_A [(mo, .inr (8, [.int (nI th), .ref ra, .ref ca, .ref ha, .int (nI kp), .ref ba, .int (nI hd), .ref wa])), (ra, .inl (kr, 8, .inl (aN rf))), (ca, .inl (kc, 8, .inl (aN cf))), (ha, .inl (kh, 8, .inl (aN hf)))] sz) := by
  refine Met.ofW (cc := cX6_set) (maxL := 5) (ret := (some .int)) (by decide) rfl ?_
  intro p e s m args below meth c s₁ B hml hv
  obtain ⟨hargs, hsz, hP, hK, hD0⟩ := hv
  have hx := B.exec
  have hb := B.bytes
  have hr := B.returns
  have hts := atoms_spec (ws := wsX6_set) B.pre
  have hown : s.vm.findClass RX6 = some m.cls := findClass_of_methodNamed B.named
  have hlocks := B.notSynchronized
  subst hsz
  have hD := hD0.self (sz := s.heap.size)
  generalize hAe : va_A [(mo, .inr (8, [.int (nI th), .ref ra, .ref ca, .ref ha, .int (nI kp), .ref ba, .int (nI hd), .ref wa])), (ra, .inl (kr, 8, .inl (aN rf))), (ca, .inl (kc, 8, .inl (aN cf))), (ha, .inl (kh, 8, .inl (aN hf)))] s.heap.size = A at hD ⊢
  have hA : ∀ q : Nat, s.heap.size ≤ q → A q := fun q h => by rw [← hAe]; exact Or.inr h
  have hS : va_S A s.heap s.heap [] := va_S.rf
  have hl := lv_entry ([.ref mo, .int x0, .int y]) (n := 5) (Nat.le_of_ble_eq_true rfl)
  refine W.eq (g2 := F0 m 0 (lg_sl ([.ref mo, .int x0, .int y]) ++ List.replicate (5 - (lg_sl ([.ref mo, .int x0, .int y])).length) Slot.unset).toArray []) (by rw [hargs]; exact lg_entry_eq _ _ _) ?_
  generalize (lg_sl ([.ref mo, .int x0, .int y]) ++ List.replicate (5 - (lg_sl ([.ref mo, .int x0, .int y])).length) Slot.unset).toArray = ls at hl ⊢
  have hl : lv_has ls 5 [(0, .ref mo), (1, .int x0), (2, .int y)] := hl
  refine lv_aload_n hx hb dX6_set_0 rfl (lv_at hl 0 rfl) ?_
  refine lv_iload_n hx hb dX6_set_1 rfl (lv_at hl 1 rfl) ?_
  refine lv_iconst (v := nI 0) hx hb dX6_set_2 zki_0 ?_
  refine lv_iconst (v := nI 0) hx hb dX6_set_3 zki_0 ?_
  have hPc := hP.sub (ws' := [(mo, .inr (8, [.int (nI th), .ref ra, .ref ca, .ref ha, .int (nI kp), .ref ba, .int (nI hd), .ref wa]))]) [0] rfl
  have hDc := hD.sub (ws' := [(mo, .inr (8, [.int (nI th), .ref ra, .ref ca, .ref ha, .int (nI kp), .ref ba, .int (nI hd), .ref wa]))]) [0] (by decide) rfl
  have hKc := hK.sub (tys' := []) [] rfl
  have hFc := va_free (wc := [(mo, .inr (8, [.int (nI th), .ref ra, .ref ca, .ref ha, .int (nI kp), .ref ba, .int (nI hd), .ref wa]))]) hD hS hA [0] rfl
  refine va_calli (va_runV (As := [.int x0, .int (nI 0), .int (nI 0)]) (rest := []) ⟨hx, hb, hml, hown, hts⟩ (c_X6_areNone_no l D s.heap.size mo ra ca ha ba wa kp hd th x0 (nI 0) (nI 0) (by rw [ok3_1]; exact hno)) (cwV 3 hts gX6_set_X6_areNone rfl rfl rfl (by decide +kernel) ⟨Nat.le_of_ble_eq_true rfl, Nat.le_of_ble_eq_true rfl⟩) ⟨(z_fb2), va_recv hK hP (ci := 8) (q0 := 0) rfl rfl, fun U hU hW => ⟨rfl, by rw [hU], by rw [hU]; exact hPc, va_K.moved hW.alike hKc, hDc.weaken (fun _ _ _ _ => trivial)⟩⟩ rfl rfl hl.1 rfl (lv_room (Nat.le_of_ble_eq_true rfl)) dX6_set_4 ⟨Nat.le_of_ble_eq_true rfl, Nat.le_of_ble_eq_true rfl⟩) hS (fun q _ h => hFc q h) hFc (fun r4 u4 t H locs ht hvm e4 hB hz1 hk1 hS => ?_)
  obtain ⟨hP1, hK1, hD1⟩ := hB
  rw [ht] at hP1
  obtain ⟨hP, hD⟩ := va_join (wr := [(ra, .inl (kr, 8, .inl (aN rf))), (ca, .inl (kc, 8, .inl (aN cf))), (ha, .inl (kh, 8, .inl (aN hf)))]) (w1 := [(mo, .inr (8, [.int (nI 1), .ref ra, .ref ca, .ref ha, .int (nI kp), .ref ba, .int (nI hd), .ref wa]))]) hP hD [0] [1, 2, 3] rfl rfl (by decide) (by decide) hk1 hFc hP1 hD1
  have hP : va_P D vwCl [(ra, .inl (kr, 8, .inl (aN rf))), (ca, .inl (kc, 8, .inl (aN cf))), (ha, .inl (kh, 8, .inl (aN hf))), (mo, .inr (8, [.int (nI 1), .ref ra, .ref ca, .ref ha, .int (nI kp), .ref ba, .int (nI hd), .ref wa]))] H := hP
  have hD : va_D A [(ra, .inl (kr, 8, .inl (aN rf))), (ca, .inl (kc, 8, .inl (aN cf))), (ha, .inl (kh, 8, .inl (aN hf))), (mo, .inr (8, [.int (nI 1), .ref ra, .ref ca, .ref ha, .int (nI kp), .ref ba, .int (nI hd), .ref wa]))] := hD
  refine W.widen (k := 0) (n := 0) (Nat.le_of_ble_eq_true rfl) (Nat.le_of_ble_eq_true rfl) ?_
  subst e4
  refine z_bne (tgt := 33) hx hb dX6_set_7 (by decide) (fun c_7 => ?_) (fun c_7 => absurd c_7 (by decide))
  refine lv_iconst (v := nI 0) hx hb dX6_set_33 zki_0 ?_
  have hP9 := hP.sub (ws' := [(mo, .inr (8, [.int (nI 1), .ref ra, .ref ca, .ref ha, .int (nI kp), .ref ba, .int (nI hd), .ref wa])), (ra, .inl (kr, 8, .inl (aN rf))), (ca, .inl (kc, 8, .inl (aN cf))), (ha, .inl (kh, 8, .inl (aN hf)))]) [3, 0, 1, 2] rfl
  have hD9 := hD.sub (ws' := [(mo, .inr (8, [.int (nI 1), .ref ra, .ref ca, .ref ha, .int (nI kp), .ref ba, .int (nI hd), .ref wa])), (ra, .inl (kr, 8, .inl (aN rf))), (ca, .inl (kc, 8, .inl (aN cf))), (ha, .inl (kh, 8, .inl (aN hf)))]) [3, 0, 1, 2] (by decide) rfl
  have hK9 := hK.sub (tys' := [(kr, .int), (kc, .int), (kh, .int)]) [0, 1, 2] rfl
  subst hAe
  refine W.widen (k := 0) (n := 0) (Nat.le_of_ble_eq_true rfl) (Nat.le_of_ble_eq_true rfl) ?_
  exact W.iret hx hb hr (fun t ht hW => ⟨⟨_, (), rfl, (rfl), by rw [ht]; exact hP9, va_K.moved hW.alike hK9, hD9⟩, hS.F ht⟩) hS.2.2 dX6_set_34
abbrev rm_c_X6_set_bad : Room := { frames := 2, cells := 0, slots := 0, locals := 45 }
abbrev q_c_X6_set_bad (D : va_G) (sz : Nat) (mo : Nat) (ra : Nat) (ca : Nat) (ha : Nat) (ba : Nat) (wa : Nat) (kp : Nat) (hd : Nat) (kr : ClassId) (kc : ClassId) (kh : ClassId) (th : Nat) (rf : Nat → Nat) (cf : Nat → Nat) (hf : Nat → Nat) (j : Nat) (y : Int32) : Array Value → State → Outcome → State → Prop := va_Qi (fun r (_ : Unit) => r = (nI 0)) (fun (_ : Unit) t => va_P D vwCl [(mo, .inr (8, [.int (nI 2), .ref ra, .ref ca, .ref ha, .int (nI kp), .ref ba, .int (nI hd), .ref wa])), (ra, .inl (kr, 8, .inl (aN rf))), (ca, .inl (kc, 8, .inl (aN cf))), (ha, .inl (kh, 8, .inl (aN hf)))] t.heap ∧ va_K D vwCl [(kr, .int), (kc, .int), (kh, .int)] t ∧ va_D (va_A [(mo, .inr (8, [.int (nI th), .ref ra, .ref ca, .ref ha, .int (nI kp), .ref ba, .int (nI hd), .ref wa])), (ra, .inl (kr, 8, .inl (aN rf))), (ca, .inl (kc, 8, .inl (aN cf))), (ha, .inl (kh, 8, .inl (aN hf)))] sz) [(mo, .inr (8, [.int (nI 2), .ref ra, .ref ca, .ref ha, .int (nI kp), .ref ba, .int (nI hd), .ref wa])), (ra, .inl (kr, 8, .inl (aN rf))), (ca, .inl (kc, 8, .inl (aN cf))), (ha, .inl (kh, 8, .inl (aN hf)))]) (va_A [(mo, .inr (8, [.int (nI th), .ref ra, .ref ca, .ref ha, .int (nI kp), .ref ba, .int (nI hd), .ref wa])), (ra, .inl (kr, 8, .inl (aN rf))), (ca, .inl (kc, 8, .inl (aN cf))), (ha, .inl (kh, 8, .inl (aN hf)))] sz)
set_option maxHeartbeats 4000000 in
set_option maxRecDepth 100000 in
theorem c_X6_set_bad (l : Launch) (D : va_G) (sz : Nat) (mo : Nat) (ra : Nat) (ca : Nat) (ha : Nat) (ba : Nat) (wa : Nat) (kp : Nat) (hd : Nat) (kr : ClassId) (kc : ClassId) (kh : ClassId) (th : Nat) (rf : Nat → Nat) (cf : Nat → Nat) (hf : Nat → Nat) (j : Nat) (y : Int32) (hrf : ∀ k, k < 8 → rf k < 256) (hkp : kp ≤ 8) (hj : j < 8) (hy : inN 256 y = false) : Met l yX6_set wsX6_set rm_c_X6_set_bad (va_Pc [.ref mo, .int (nI j), .int y] (fun U => U.heap.size = sz ∧ va_P D vwCl [(mo, .inr (8, [.int (nI th), .ref ra, .ref ca, .ref ha, .int (nI kp), .ref ba, .int (nI hd), .ref wa])), (ra, .inl (kr, 8, .inl (aN rf))), (ca, .inl (kc, 8, .inl (aN cf))), (ha, .inl (kh, 8, .inl (aN hf)))] U.heap ∧ va_K D vwCl [(kr, .int), (kc, .int), (kh, .int)] U ∧ va_D (fun _ => True) [(mo, .inr (8, [.int (nI th), .ref ra, .ref ca, .ref ha, .int (nI kp), .ref ba, .int (nI hd), .ref wa])), (ra, .inl (kr, 8, .inl (aN rf))), (ca, .inl (kc, 8, .inl (aN cf))), (ha, .inl (kh, 8, .inl (aN hf)))])) (q_c_X6_set_bad D sz mo ra ca ha ba wa kp hd kr kc kh th rf cf hf j y) 0 0 (va_A [(mo, .inr (8, [.int (nI th), .ref ra, .ref ca, .ref ha, .int (nI kp), .ref ba, .int (nI hd), .ref wa])), (ra, .inl (kr, 8, .inl (aN rf))), (ca, .inl (kc, 8, .inl (aN cf))), (ha, .inl (kh, 8, .inl (aN hf)))] sz) := by
  refine Met.ofW (cc := cX6_set) (maxL := 5) (ret := (some .int)) (by decide) rfl ?_
  intro p e s m args below meth c s₁ B hml hv
  obtain ⟨hargs, hsz, hP, hK, hD0⟩ := hv
  have hx := B.exec
  have hb := B.bytes
  have hr := B.returns
  have hts := atoms_spec (ws := wsX6_set) B.pre
  have hown : s.vm.findClass RX6 = some m.cls := findClass_of_methodNamed B.named
  have hlocks := B.notSynchronized
  subst hsz
  have hD := hD0.self (sz := s.heap.size)
  generalize hAe : va_A [(mo, .inr (8, [.int (nI th), .ref ra, .ref ca, .ref ha, .int (nI kp), .ref ba, .int (nI hd), .ref wa])), (ra, .inl (kr, 8, .inl (aN rf))), (ca, .inl (kc, 8, .inl (aN cf))), (ha, .inl (kh, 8, .inl (aN hf)))] s.heap.size = A at hD ⊢
  have hA : ∀ q : Nat, s.heap.size ≤ q → A q := fun q h => by rw [← hAe]; exact Or.inr h
  have hS : va_S A s.heap s.heap [] := va_S.rf
  have hl := lv_entry ([.ref mo, .int (nI j), .int y]) (n := 5) (Nat.le_of_ble_eq_true rfl)
  refine W.eq (g2 := F0 m 0 (lg_sl ([.ref mo, .int (nI j), .int y]) ++ List.replicate (5 - (lg_sl ([.ref mo, .int (nI j), .int y])).length) Slot.unset).toArray []) (by rw [hargs]; exact lg_entry_eq _ _ _) ?_
  generalize (lg_sl ([.ref mo, .int (nI j), .int y]) ++ List.replicate (5 - (lg_sl ([.ref mo, .int (nI j), .int y])).length) Slot.unset).toArray = ls at hl ⊢
  have hl : lv_has ls 5 [(0, .ref mo), (1, .int (nI j)), (2, .int y)] := hl
  refine lv_aload_n hx hb dX6_set_0 rfl (lv_at hl 0 rfl) ?_
  refine lv_iload_n hx hb dX6_set_1 rfl (lv_at hl 1 rfl) ?_
  refine lv_iconst (v := nI 0) hx hb dX6_set_2 zki_0 ?_
  refine lv_iconst (v := nI 0) hx hb dX6_set_3 zki_0 ?_
  have hPc := hP.sub (ws' := [(mo, .inr (8, [.int (nI th), .ref ra, .ref ca, .ref ha, .int (nI kp), .ref ba, .int (nI hd), .ref wa]))]) [0] rfl
  have hDc := hD.sub (ws' := [(mo, .inr (8, [.int (nI th), .ref ra, .ref ca, .ref ha, .int (nI kp), .ref ba, .int (nI hd), .ref wa]))]) [0] (by decide) rfl
  have hKc := hK.sub (tys' := []) [] rfl
  have hFc := va_free (wc := [(mo, .inr (8, [.int (nI th), .ref ra, .ref ca, .ref ha, .int (nI kp), .ref ba, .int (nI hd), .ref wa]))]) hD hS hA [0] rfl
  refine va_calli (va_runV (As := [.int (nI j), .int (nI 0), .int (nI 0)]) (rest := []) ⟨hx, hb, hml, hown, hts⟩ (c_X6_areNone_ok l D s.heap.size mo ra ca ha ba wa kp hd th j 0 0 (by omega) (by omega) (by omega)) (cwV 3 hts gX6_set_X6_areNone rfl rfl rfl (by decide +kernel) ⟨Nat.le_of_ble_eq_true rfl, Nat.le_of_ble_eq_true rfl⟩) ⟨(z_fb2), va_recv hK hP (ci := 8) (q0 := 0) rfl rfl, fun U hU hW => ⟨rfl, by rw [hU], by rw [hU]; exact hPc, va_K.moved hW.alike hKc, hDc.weaken (fun _ _ _ _ => trivial)⟩⟩ rfl rfl hl.1 rfl (lv_room (Nat.le_of_ble_eq_true rfl)) dX6_set_4 ⟨Nat.le_of_ble_eq_true rfl, Nat.le_of_ble_eq_true rfl⟩) hS (fun q _ h => hFc q h) hFc (fun r4 u4 t H locs ht hvm e4 hB hz1 hk1 hS => ?_)
  obtain ⟨hP1, hK1, hD1⟩ := hB
  rw [ht] at hP1
  obtain ⟨hP, hD⟩ := va_join (wr := [(ra, .inl (kr, 8, .inl (aN rf))), (ca, .inl (kc, 8, .inl (aN cf))), (ha, .inl (kh, 8, .inl (aN hf)))]) (w1 := [(mo, .inr (8, [.int (nI 0), .ref ra, .ref ca, .ref ha, .int (nI kp), .ref ba, .int (nI hd), .ref wa]))]) hP hD [0] [1, 2, 3] rfl rfl (by decide) (by decide) hk1 hFc hP1 hD1
  have hP : va_P D vwCl [(ra, .inl (kr, 8, .inl (aN rf))), (ca, .inl (kc, 8, .inl (aN cf))), (ha, .inl (kh, 8, .inl (aN hf))), (mo, .inr (8, [.int (nI 0), .ref ra, .ref ca, .ref ha, .int (nI kp), .ref ba, .int (nI hd), .ref wa]))] H := hP
  have hD : va_D A [(ra, .inl (kr, 8, .inl (aN rf))), (ca, .inl (kc, 8, .inl (aN cf))), (ha, .inl (kh, 8, .inl (aN hf))), (mo, .inr (8, [.int (nI 0), .ref ra, .ref ca, .ref ha, .int (nI kp), .ref ba, .int (nI hd), .ref wa]))] := hD
  refine W.widen (k := 0) (n := 0) (Nat.le_of_ble_eq_true rfl) (Nat.le_of_ble_eq_true rfl) ?_
  subst e4
  refine z_bne (tgt := 33) hx hb dX6_set_7 (by decide) (fun c_7 => absurd c_7 (by decide)) (fun c_7 => ?_)
  refine lv_aload_n hx hb dX6_set_10 rfl (lv_at hl 0 rfl) ?_
  refine lv_iload_n hx hb dX6_set_11 rfl (lv_at hl 2 rfl) ?_
  refine lv_sipush (v := nI 256) hx hb dX6_set_12 zks_256 ?_
  refine z_ci (va_runS (As := [.int y, .int (nI 256)]) (rest := [.ref mo]) ⟨hx, hb, hml, hown, hts⟩ (c_X6_isNumber l D y 256 (by omega)) (va_cwS 2 hts gX6_set_X6_isNumber rfl rfl rfl (by decide +kernel) ⟨Nat.le_of_ble_eq_true rfl, Nat.le_of_ble_eq_true rfl⟩) ⟨z_fb0, fun U hU hW => ⟨rfl, trivial⟩⟩ rfl rfl hl.1 rfl (lv_room (Nat.le_of_ble_eq_true rfl)) dX6_set_15 ⟨Nat.le_of_ble_eq_true rfl, Nat.le_of_ble_eq_true rfl⟩) (fun r15 e15 => ?_)
  subst e15
  refine z_bne (tgt := 25) hx hb dX6_set_18 (by decide) (fun c_18 => absurd (hy.symm.trans c_18) (by decide)) (fun c_18 => ?_)
  refine lv_iconst (v := nI 1) hx hb dX6_set_21 zki_1 ?_
  refine lv_goto (tgt := 26) hx hb dX6_set_22 (by decide) ?_
  refine lv_iconst (v := nI 2) hx hb dX6_set_26 zki_2 ?_
  have hPc := hP.sub (ws' := [(mo, .inr (8, [.int (nI 0), .ref ra, .ref ca, .ref ha, .int (nI kp), .ref ba, .int (nI hd), .ref wa]))]) [3] rfl
  have hDc := hD.sub (ws' := [(mo, .inr (8, [.int (nI 0), .ref ra, .ref ca, .ref ha, .int (nI kp), .ref ba, .int (nI hd), .ref wa]))]) [3] (by decide) rfl
  have hKc := hK.sub (tys' := []) [] rfl
  have hFc := va_free (wc := [(mo, .inr (8, [.int (nI 0), .ref ra, .ref ca, .ref ha, .int (nI kp), .ref ba, .int (nI hd), .ref wa]))]) hD hS hA [3] rfl
  refine va_calli (va_runV (As := [.int (nI 1), .int (nI 2)]) (rest := []) ⟨hx, hb, hml, hown, hts⟩ (c_X6_fails_true l D H.size mo ra ca ha ba wa kp hd 2 (by omega) (by omega)) (cwV 2 hts gX6_set_X6_fails rfl rfl rfl (by decide +kernel) ⟨Nat.le_of_ble_eq_true rfl, Nat.le_of_ble_eq_true rfl⟩) ⟨(z_fb2), va_recv hK hP (ci := 8) (q0 := 3) rfl rfl, fun U hU hW => ⟨rfl, by rw [hU], by rw [hU]; exact hPc, va_K.moved hW.alike hKc, hDc.weaken (fun _ _ _ _ => trivial)⟩⟩ rfl rfl hl.1 rfl (lv_room (Nat.le_of_ble_eq_true rfl)) dX6_set_27 ⟨Nat.le_of_ble_eq_true rfl, Nat.le_of_ble_eq_true rfl⟩) hS (fun q _ h => hFc q h) hFc (fun r27 u27 t H locs ht hvm e27 hB hz1 hk1 hS => ?_)
  obtain ⟨hP1, hK1, hD1⟩ := hB
  rw [ht] at hP1
  obtain ⟨hP, hD⟩ := va_join (wr := [(ra, .inl (kr, 8, .inl (aN rf))), (ca, .inl (kc, 8, .inl (aN cf))), (ha, .inl (kh, 8, .inl (aN hf)))]) (w1 := [(mo, .inr (8, [.int (nI 2), .ref ra, .ref ca, .ref ha, .int (nI kp), .ref ba, .int (nI hd), .ref wa]))]) hP hD [3] [0, 1, 2] rfl rfl (by decide) (by decide) hk1 hFc hP1 hD1
  have hP : va_P D vwCl [(ra, .inl (kr, 8, .inl (aN rf))), (ca, .inl (kc, 8, .inl (aN cf))), (ha, .inl (kh, 8, .inl (aN hf))), (mo, .inr (8, [.int (nI 2), .ref ra, .ref ca, .ref ha, .int (nI kp), .ref ba, .int (nI hd), .ref wa]))] H := hP
  have hD : va_D A [(ra, .inl (kr, 8, .inl (aN rf))), (ca, .inl (kc, 8, .inl (aN cf))), (ha, .inl (kh, 8, .inl (aN hf))), (mo, .inr (8, [.int (nI 2), .ref ra, .ref ca, .ref ha, .int (nI kp), .ref ba, .int (nI hd), .ref wa]))] := hD
  refine W.widen (k := 0) (n := 0) (Nat.le_of_ble_eq_true rfl) (Nat.le_of_ble_eq_true rfl) ?_
  subst e27
  refine z_beq (tgt := 35) hx hb dX6_set_30 (by decide) (fun c_30 => absurd c_30 (by decide)) (fun c_30 => ?_)
  refine lv_iconst (v := nI 0) hx hb dX6_set_33 zki_0 ?_
  have hP9 := hP.sub (ws' := [(mo, .inr (8, [.int (nI 2), .ref ra, .ref ca, .ref ha, .int (nI kp), .ref ba, .int (nI hd), .ref wa])), (ra, .inl (kr, 8, .inl (aN rf))), (ca, .inl (kc, 8, .inl (aN cf))), (ha, .inl (kh, 8, .inl (aN hf)))]) [3, 0, 1, 2] rfl
  have hD9 := hD.sub (ws' := [(mo, .inr (8, [.int (nI 2), .ref ra, .ref ca, .ref ha, .int (nI kp), .ref ba, .int (nI hd), .ref wa])), (ra, .inl (kr, 8, .inl (aN rf))), (ca, .inl (kc, 8, .inl (aN cf))), (ha, .inl (kh, 8, .inl (aN hf)))]) [3, 0, 1, 2] (by decide) rfl
  have hK9 := hK.sub (tys' := [(kr, .int), (kc, .int), (kh, .int)]) [0, 1, 2] rfl
  subst hAe
  refine W.widen (k := 0) (n := 0) (Nat.le_of_ble_eq_true rfl) (Nat.le_of_ble_eq_true rfl) ?_
  exact W.iret hx hb hr (fun t ht hW => ⟨⟨_, (), rfl, (rfl), by rw [ht]; exact hP9, va_K.moved hW.alike hK9, hD9⟩, hS.F ht⟩) hS.2.2 dX6_set_34
abbrev rm_c_X6_undo_no : Room := { frames := 0, cells := 0, slots := 0, locals := 0 }
abbrev q_c_X6_undo_no (D : va_G) (sz : Nat) (mo : Nat) (ra : Nat) (ca : Nat) (ha : Nat) (ba : Nat) (wa : Nat) (kp : Nat) (hd : Nat) (kr : ClassId) (kc : ClassId) (kh : ClassId) (th : Nat) (rf : Nat → Nat) (cf : Nat → Nat) (hf : Nat → Nat) : Array Value → State → Outcome → State → Prop := va_Qi (fun r (_ : Unit) => r = (-1)) (fun (_ : Unit) t => va_P D vwCl [(mo, .inr (8, [.int (nI 0), .ref ra, .ref ca, .ref ha, .int (nI kp), .ref ba, .int (nI hd), .ref wa])), (ra, .inl (kr, 8, .inl (aN rf))), (ca, .inl (kc, 8, .inl (aN cf))), (ha, .inl (kh, 8, .inl (aN hf)))] t.heap ∧ va_K D vwCl [(kr, .int), (kc, .int), (kh, .int)] t ∧ va_D (va_A [(mo, .inr (8, [.int (nI th), .ref ra, .ref ca, .ref ha, .int (nI kp), .ref ba, .int (nI hd), .ref wa])), (ra, .inl (kr, 8, .inl (aN rf))), (ca, .inl (kc, 8, .inl (aN cf))), (ha, .inl (kh, 8, .inl (aN hf)))] sz) [(mo, .inr (8, [.int (nI 0), .ref ra, .ref ca, .ref ha, .int (nI kp), .ref ba, .int (nI hd), .ref wa])), (ra, .inl (kr, 8, .inl (aN rf))), (ca, .inl (kc, 8, .inl (aN cf))), (ha, .inl (kh, 8, .inl (aN hf)))]) (va_A [(mo, .inr (8, [.int (nI th), .ref ra, .ref ca, .ref ha, .int (nI kp), .ref ba, .int (nI hd), .ref wa])), (ra, .inl (kr, 8, .inl (aN rf))), (ca, .inl (kc, 8, .inl (aN cf))), (ha, .inl (kh, 8, .inl (aN hf)))] sz)
set_option maxHeartbeats 4000000 in
set_option maxRecDepth 100000 in
theorem c_X6_undo_no (l : Launch) (D : va_G) (sz : Nat) (mo : Nat) (ra : Nat) (ca : Nat) (ha : Nat) (ba : Nat) (wa : Nat) (kp : Nat) (hd : Nat) (kr : ClassId) (kc : ClassId) (kh : ClassId) (th : Nat) (rf : Nat → Nat) (cf : Nat → Nat) (hf : Nat → Nat) (hrf : ∀ k, k < 8 → rf k < 256) (hkp : kp ≤ 8) (hz : kp = 0) : Met l yX6_undo wsX6_undo rm_c_X6_undo_no (va_Pc [.ref mo] (fun U => U.heap.size = sz ∧ va_P D vwCl [(mo, .inr (8, [.int (nI th), .ref ra, .ref ca, .ref ha, .int (nI kp), .ref ba, .int (nI hd), .ref wa])), (ra, .inl (kr, 8, .inl (aN rf))), (ca, .inl (kc, 8, .inl (aN cf))), (ha, .inl (kh, 8, .inl (aN hf)))] U.heap ∧ va_K D vwCl [(kr, .int), (kc, .int), (kh, .int)] U ∧ va_D (fun _ => True) [(mo, .inr (8, [.int (nI th), .ref ra, .ref ca, .ref ha, .int (nI kp), .ref ba, .int (nI hd), .ref wa])), (ra, .inl (kr, 8, .inl (aN rf))), (ca, .inl (kc, 8, .inl (aN cf))), (ha, .inl (kh, 8, .inl (aN hf)))])) (q_c_X6_undo_no D sz mo ra ca ha ba wa kp hd kr kc kh th rf cf hf) 0 0 (va_A [(mo, .inr (8, [.int (nI th), .ref ra, .ref ca, .ref ha, .int (nI kp), .ref ba, .int (nI hd), .ref wa])), (ra, .inl (kr, 8, .inl (aN rf))), (ca, .inl (kc, 8, .inl (aN cf))), (ha, .inl (kh, 8, .inl (aN hf)))] sz) := by
  refine Met.ofW (cc := cX6_undo) (maxL := 1) (ret := (some .int)) (by decide) rfl ?_
  intro p e s m args below meth c s₁ B hml hv
  obtain ⟨hargs, hsz, hP, hK, hD0⟩ := hv
  have hx := B.exec
  have hb := B.bytes
  have hr := B.returns
  have hts := atoms_spec (ws := wsX6_undo) B.pre
  have hown : s.vm.findClass RX6 = some m.cls := findClass_of_methodNamed B.named
  have hlocks := B.notSynchronized
  subst hsz
  have hD := hD0.self (sz := s.heap.size)
  generalize hAe : va_A [(mo, .inr (8, [.int (nI th), .ref ra, .ref ca, .ref ha, .int (nI kp), .ref ba, .int (nI hd), .ref wa])), (ra, .inl (kr, 8, .inl (aN rf))), (ca, .inl (kc, 8, .inl (aN cf))), (ha, .inl (kh, 8, .inl (aN hf)))] s.heap.size = A at hD ⊢
  have hA : ∀ q : Nat, s.heap.size ≤ q → A q := fun q h => by rw [← hAe]; exact Or.inr h
  have hS : va_S A s.heap s.heap [] := va_S.rf
  have hl := lv_entry ([.ref mo]) (n := 1) (Nat.le_of_ble_eq_true rfl)
  refine W.eq (g2 := F0 m 0 (lg_sl ([.ref mo]) ++ List.replicate (1 - (lg_sl ([.ref mo])).length) Slot.unset).toArray []) (by rw [hargs]; exact lg_entry_eq _ _ _) ?_
  generalize (lg_sl ([.ref mo]) ++ List.replicate (1 - (lg_sl ([.ref mo])).length) Slot.unset).toArray = ls at hl ⊢
  have hl : lv_has ls 1 [(0, .ref mo)] := hl
  refine lv_aload_n hx hb dX6_undo_0 rfl (lv_at hl 0 rfl) ?_
  refine lv_iconst (v := nI 0) hx hb dX6_undo_1 zki_0 ?_
  refine va_put (D := D) (ci := 8) (v := .int (nI 0)) (ty := .int) (C := RX6) (T := TX6) (N := 8) hx hb hts nX6_undo_inX6 tyX6 tyX6_ok nmX6 hown hK hP hD hS 0 rfl rfl 0 (by decide) (hts (.fieldLink RX6 26 "GamefieldModel" "thrown" "I") (by decide +kernel)) (fun _ h9 => h9) rfl (by decide +kernel) rfl rfl (Nat.le_of_ble_eq_true rfl) dX6_undo_2 (fun H locs hP hD hS => ?_)
  have hP : va_P D vwCl [(mo, .inr (8, [.int (nI 0), .ref ra, .ref ca, .ref ha, .int (nI kp), .ref ba, .int (nI hd), .ref wa])), (ra, .inl (kr, 8, .inl (aN rf))), (ca, .inl (kc, 8, .inl (aN cf))), (ha, .inl (kh, 8, .inl (aN hf)))] H := hP
  have hD : va_D A [(mo, .inr (8, [.int (nI 0), .ref ra, .ref ca, .ref ha, .int (nI kp), .ref ba, .int (nI hd), .ref wa])), (ra, .inl (kr, 8, .inl (aN rf))), (ca, .inl (kc, 8, .inl (aN cf))), (ha, .inl (kh, 8, .inl (aN hf)))] := hD
  refine lv_aload_n hx hb dX6_undo_5 rfl (lv_at hl 0 rfl) ?_
  refine va_get (D := D) (ci := 8) (v := .int (nI kp)) (C := RX6) (T := TX6) (N := 8) hx hb hts nX6_undo_inX6 hown hK hP 0 rfl rfl 4 (by decide) (hts (.fieldLink RX6 49 "GamefieldModel" "kept" "I") (by decide +kernel)) (fun _ h9 => h9) rfl dX6_undo_6 ?_
  refine z_fne (tgt := 14) hx hb (by omega) dX6_undo_9 (by decide) (fun c_9 => absurd hz (by omega)) (fun c_9 => ?_)
  refine lv_iconst (v := (-1)) hx hb dX6_undo_12 zki_m1 ?_
  have hP9 := hP.sub (ws' := [(mo, .inr (8, [.int (nI 0), .ref ra, .ref ca, .ref ha, .int (nI kp), .ref ba, .int (nI hd), .ref wa])), (ra, .inl (kr, 8, .inl (aN rf))), (ca, .inl (kc, 8, .inl (aN cf))), (ha, .inl (kh, 8, .inl (aN hf)))]) [0, 1, 2, 3] rfl
  have hD9 := hD.sub (ws' := [(mo, .inr (8, [.int (nI 0), .ref ra, .ref ca, .ref ha, .int (nI kp), .ref ba, .int (nI hd), .ref wa])), (ra, .inl (kr, 8, .inl (aN rf))), (ca, .inl (kc, 8, .inl (aN cf))), (ha, .inl (kh, 8, .inl (aN hf)))]) [0, 1, 2, 3] (by decide) rfl
  have hK9 := hK.sub (tys' := [(kr, .int), (kc, .int), (kh, .int)]) [0, 1, 2] rfl
  subst hAe
  refine W.widen (k := 0) (n := 0) (Nat.le_of_ble_eq_true rfl) (Nat.le_of_ble_eq_true rfl) ?_
  exact W.iret hx hb hr (fun t ht hW => ⟨⟨_, (), rfl, (rfl), by rw [ht]; exact hP9, va_K.moved hW.alike hK9, hD9⟩, hS.F ht⟩) hS.2.2 dX6_undo_13
abbrev rm_c_X6_undo_ok : Room := { frames := 0, cells := 0, slots := 0, locals := 0 }
abbrev q_c_X6_undo_ok (D : va_G) (sz : Nat) (mo : Nat) (ra : Nat) (ca : Nat) (ha : Nat) (ba : Nat) (wa : Nat) (kp : Nat) (hd : Nat) (kr : ClassId) (kc : ClassId) (kh : ClassId) (th : Nat) (rf : Nat → Nat) (cf : Nat → Nat) (hf : Nat → Nat) : Array Value → State → Outcome → State → Prop := va_Qi (fun r (_ : Unit) => r = (nI (cf (kp - 1)))) (fun (_ : Unit) t => va_P D vwCl [(mo, .inr (8, [.int (nI 0), .ref ra, .ref ca, .ref ha, .int (nI (kp - 1)), .ref ba, .int (nI hd), .ref wa])), (ra, .inl (kr, 8, .inl (aN (va_up rf (cf (kp - 1)) (hf (kp - 1)))))), (ca, .inl (kc, 8, .inl (aN cf))), (ha, .inl (kh, 8, .inl (aN hf)))] t.heap ∧ va_K D vwCl [(kr, .int), (kc, .int), (kh, .int)] t ∧ va_D (va_A [(mo, .inr (8, [.int (nI th), .ref ra, .ref ca, .ref ha, .int (nI kp), .ref ba, .int (nI hd), .ref wa])), (ra, .inl (kr, 8, .inl (aN rf))), (ca, .inl (kc, 8, .inl (aN cf))), (ha, .inl (kh, 8, .inl (aN hf)))] sz) [(mo, .inr (8, [.int (nI 0), .ref ra, .ref ca, .ref ha, .int (nI (kp - 1)), .ref ba, .int (nI hd), .ref wa])), (ra, .inl (kr, 8, .inl (aN (va_up rf (cf (kp - 1)) (hf (kp - 1)))))), (ca, .inl (kc, 8, .inl (aN cf))), (ha, .inl (kh, 8, .inl (aN hf)))]) (va_A [(mo, .inr (8, [.int (nI th), .ref ra, .ref ca, .ref ha, .int (nI kp), .ref ba, .int (nI hd), .ref wa])), (ra, .inl (kr, 8, .inl (aN rf))), (ca, .inl (kc, 8, .inl (aN cf))), (ha, .inl (kh, 8, .inl (aN hf)))] sz)
set_option maxHeartbeats 4000000 in
set_option maxRecDepth 100000 in
theorem c_X6_undo_ok (l : Launch) (D : va_G) (sz : Nat) (mo : Nat) (ra : Nat) (ca : Nat) (ha : Nat) (ba : Nat) (wa : Nat) (kp : Nat) (hd : Nat) (kr : ClassId) (kc : ClassId) (kh : ClassId) (th : Nat) (rf : Nat → Nat) (cf : Nat → Nat) (hf : Nat → Nat) (hrf : ∀ k, k < 8 → rf k < 256) (hkp : kp ≤ 8) (hz : 0 < kp) (hcf : cf (kp - 1) < 8) (hhf : hf (kp - 1) < 256) : Met l yX6_undo wsX6_undo rm_c_X6_undo_ok (va_Pc [.ref mo] (fun U => U.heap.size = sz ∧ va_P D vwCl [(mo, .inr (8, [.int (nI th), .ref ra, .ref ca, .ref ha, .int (nI kp), .ref ba, .int (nI hd), .ref wa])), (ra, .inl (kr, 8, .inl (aN rf))), (ca, .inl (kc, 8, .inl (aN cf))), (ha, .inl (kh, 8, .inl (aN hf)))] U.heap ∧ va_K D vwCl [(kr, .int), (kc, .int), (kh, .int)] U ∧ va_D (fun _ => True) [(mo, .inr (8, [.int (nI th), .ref ra, .ref ca, .ref ha, .int (nI kp), .ref ba, .int (nI hd), .ref wa])), (ra, .inl (kr, 8, .inl (aN rf))), (ca, .inl (kc, 8, .inl (aN cf))), (ha, .inl (kh, 8, .inl (aN hf)))])) (q_c_X6_undo_ok D sz mo ra ca ha ba wa kp hd kr kc kh th rf cf hf) 0 0 (va_A [(mo, .inr (8, [.int (nI th), .ref ra, .ref ca, .ref ha, .int (nI kp), .ref ba, .int (nI hd), .ref wa])), (ra, .inl (kr, 8, .inl (aN rf))), (ca, .inl (kc, 8, .inl (aN cf))), (ha, .inl (kh, 8, .inl (aN hf)))] sz) := by
  refine Met.ofW (cc := cX6_undo) (maxL := 1) (ret := (some .int)) (by decide) rfl ?_
  intro p e s m args below meth c s₁ B hml hv
  obtain ⟨hargs, hsz, hP, hK, hD0⟩ := hv
  have hx := B.exec
  have hb := B.bytes
  have hr := B.returns
  have hts := atoms_spec (ws := wsX6_undo) B.pre
  have hown : s.vm.findClass RX6 = some m.cls := findClass_of_methodNamed B.named
  have hlocks := B.notSynchronized
  subst hsz
  have hD := hD0.self (sz := s.heap.size)
  generalize hAe : va_A [(mo, .inr (8, [.int (nI th), .ref ra, .ref ca, .ref ha, .int (nI kp), .ref ba, .int (nI hd), .ref wa])), (ra, .inl (kr, 8, .inl (aN rf))), (ca, .inl (kc, 8, .inl (aN cf))), (ha, .inl (kh, 8, .inl (aN hf)))] s.heap.size = A at hD ⊢
  have hA : ∀ q : Nat, s.heap.size ≤ q → A q := fun q h => by rw [← hAe]; exact Or.inr h
  have hS : va_S A s.heap s.heap [] := va_S.rf
  have hl := lv_entry ([.ref mo]) (n := 1) (Nat.le_of_ble_eq_true rfl)
  refine W.eq (g2 := F0 m 0 (lg_sl ([.ref mo]) ++ List.replicate (1 - (lg_sl ([.ref mo])).length) Slot.unset).toArray []) (by rw [hargs]; exact lg_entry_eq _ _ _) ?_
  generalize (lg_sl ([.ref mo]) ++ List.replicate (1 - (lg_sl ([.ref mo])).length) Slot.unset).toArray = ls at hl ⊢
  have hl : lv_has ls 1 [(0, .ref mo)] := hl
  refine lv_aload_n hx hb dX6_undo_0 rfl (lv_at hl 0 rfl) ?_
  refine lv_iconst (v := nI 0) hx hb dX6_undo_1 zki_0 ?_
  refine va_put (D := D) (ci := 8) (v := .int (nI 0)) (ty := .int) (C := RX6) (T := TX6) (N := 8) hx hb hts nX6_undo_inX6 tyX6 tyX6_ok nmX6 hown hK hP hD hS 0 rfl rfl 0 (by decide) (hts (.fieldLink RX6 26 "GamefieldModel" "thrown" "I") (by decide +kernel)) (fun _ h9 => h9) rfl (by decide +kernel) rfl rfl (Nat.le_of_ble_eq_true rfl) dX6_undo_2 (fun H locs hP hD hS => ?_)
  have hP : va_P D vwCl [(mo, .inr (8, [.int (nI 0), .ref ra, .ref ca, .ref ha, .int (nI kp), .ref ba, .int (nI hd), .ref wa])), (ra, .inl (kr, 8, .inl (aN rf))), (ca, .inl (kc, 8, .inl (aN cf))), (ha, .inl (kh, 8, .inl (aN hf)))] H := hP
  have hD : va_D A [(mo, .inr (8, [.int (nI 0), .ref ra, .ref ca, .ref ha, .int (nI kp), .ref ba, .int (nI hd), .ref wa])), (ra, .inl (kr, 8, .inl (aN rf))), (ca, .inl (kc, 8, .inl (aN cf))), (ha, .inl (kh, 8, .inl (aN hf)))] := hD
  refine lv_aload_n hx hb dX6_undo_5 rfl (lv_at hl 0 rfl) ?_
  refine va_get (D := D) (ci := 8) (v := .int (nI kp)) (C := RX6) (T := TX6) (N := 8) hx hb hts nX6_undo_inX6 hown hK hP 0 rfl rfl 4 (by decide) (hts (.fieldLink RX6 49 "GamefieldModel" "kept" "I") (by decide +kernel)) (fun _ h9 => h9) rfl dX6_undo_6 ?_
  refine z_fne (tgt := 14) hx hb (by omega) dX6_undo_9 (by decide) (fun c_9 => ?_) (fun c_9 => absurd c_9 (by omega))
  refine lv_aload_n hx hb dX6_undo_14 rfl (lv_at hl 0 rfl) ?_
  refine lv_dup hx hb dX6_undo_15 rfl ?_
  refine va_get (D := D) (ci := 8) (v := .int (nI kp)) (C := RX6) (T := TX6) (N := 8) hx hb hts nX6_undo_inX6 hown hK hP 0 rfl rfl 4 (by decide) (hts (.fieldLink RX6 49 "GamefieldModel" "kept" "I") (by decide +kernel)) (fun _ h9 => h9) rfl dX6_undo_16 ?_
  refine lv_iconst (v := nI 1) hx hb dX6_undo_19 zki_1 ?_
  refine z_sub hx hb (by omega) dX6_undo_20 ?_
  refine va_put (D := D) (ci := 8) (v := .int (nI (kp - 1))) (ty := .int) (C := RX6) (T := TX6) (N := 8) hx hb hts nX6_undo_inX6 tyX6 tyX6_ok nmX6 hown hK hP hD hS 0 rfl rfl 4 (by decide) (hts (.fieldLink RX6 49 "GamefieldModel" "kept" "I") (by decide +kernel)) (fun _ h9 => h9) rfl (by decide +kernel) rfl rfl (Nat.le_of_ble_eq_true rfl) dX6_undo_21 (fun H locs hP hD hS => ?_)
  have hP : va_P D vwCl [(mo, .inr (8, [.int (nI 0), .ref ra, .ref ca, .ref ha, .int (nI (kp - 1)), .ref ba, .int (nI hd), .ref wa])), (ra, .inl (kr, 8, .inl (aN rf))), (ca, .inl (kc, 8, .inl (aN cf))), (ha, .inl (kh, 8, .inl (aN hf)))] H := hP
  have hD : va_D A [(mo, .inr (8, [.int (nI 0), .ref ra, .ref ca, .ref ha, .int (nI (kp - 1)), .ref ba, .int (nI hd), .ref wa])), (ra, .inl (kr, 8, .inl (aN rf))), (ca, .inl (kc, 8, .inl (aN cf))), (ha, .inl (kh, 8, .inl (aN hf)))] := hD
  refine lv_aload_n hx hb dX6_undo_24 rfl (lv_at hl 0 rfl) ?_
  refine va_get (D := D) (ci := 8) (v := .ref ra) (C := RX6) (T := TX6) (N := 8) hx hb hts nX6_undo_inX6 hown hK hP 0 rfl rfl 1 (by decide) (hts (.fieldLink RX6 9 "GamefieldModel" "registers" "[I") (by decide +kernel)) (fun _ h9 => h9) rfl dX6_undo_25 ?_
  refine lv_aload_n hx hb dX6_undo_28 rfl (lv_at hl 0 rfl) ?_
  refine va_get (D := D) (ci := 8) (v := .ref ca) (C := RX6) (T := TX6) (N := 8) hx hb hts nX6_undo_inX6 hown hK hP 0 rfl rfl 2 (by decide) (hts (.fieldLink RX6 13 "GamefieldModel" "changed" "[I") (by decide +kernel)) (fun _ h9 => h9) rfl dX6_undo_29 ?_
  refine lv_aload_n hx hb dX6_undo_32 rfl (lv_at hl 0 rfl) ?_
  refine va_get (D := D) (ci := 8) (v := .int (nI (kp - 1))) (C := RX6) (T := TX6) (N := 8) hx hb hts nX6_undo_inX6 hown hK hP 0 rfl rfl 4 (by decide) (hts (.fieldLink RX6 49 "GamefieldModel" "kept" "I") (by decide +kernel)) (fun _ h9 => h9) rfl dX6_undo_33 ?_
  refine z_iald hx hb hK hP 2 1 rfl rfl (by omega) (by decide) dX6_undo_36 ?_
  refine lv_aload_n hx hb dX6_undo_37 rfl (lv_at hl 0 rfl) ?_
  refine va_get (D := D) (ci := 8) (v := .ref ha) (C := RX6) (T := TX6) (N := 8) hx hb hts nX6_undo_inX6 hown hK hP 0 rfl rfl 3 (by decide) (hts (.fieldLink RX6 16 "GamefieldModel" "had" "[I") (by decide +kernel)) (fun _ h9 => h9) rfl dX6_undo_38 ?_
  refine lv_aload_n hx hb dX6_undo_41 rfl (lv_at hl 0 rfl) ?_
  refine va_get (D := D) (ci := 8) (v := .int (nI (kp - 1))) (C := RX6) (T := TX6) (N := 8) hx hb hts nX6_undo_inX6 hown hK hP 0 rfl rfl 4 (by decide) (hts (.fieldLink RX6 49 "GamefieldModel" "kept" "I") (by decide +kernel)) (fun _ h9 => h9) rfl dX6_undo_42 ?_
  refine z_iald hx hb hK hP 3 2 rfl rfl (by omega) (by decide) dX6_undo_45 ?_
  refine z_iast hx hb hK hP hD hS 1 0 rfl rfl (by omega) (by decide) dX6_undo_46 (fun H locs hP hD hS => ?_)
  have hP : va_P D vwCl [(mo, .inr (8, [.int (nI 0), .ref ra, .ref ca, .ref ha, .int (nI (kp - 1)), .ref ba, .int (nI hd), .ref wa])), (ra, .inl (kr, 8, .inl (aN (va_up rf (cf (kp - 1)) (hf (kp - 1)))))), (ca, .inl (kc, 8, .inl (aN cf))), (ha, .inl (kh, 8, .inl (aN hf)))] H := hP
  have hD : va_D A [(mo, .inr (8, [.int (nI 0), .ref ra, .ref ca, .ref ha, .int (nI (kp - 1)), .ref ba, .int (nI hd), .ref wa])), (ra, .inl (kr, 8, .inl (aN (va_up rf (cf (kp - 1)) (hf (kp - 1)))))), (ca, .inl (kc, 8, .inl (aN cf))), (ha, .inl (kh, 8, .inl (aN hf)))] := hD
  refine lv_aload_n hx hb dX6_undo_47 rfl (lv_at hl 0 rfl) ?_
  refine va_get (D := D) (ci := 8) (v := .ref ca) (C := RX6) (T := TX6) (N := 8) hx hb hts nX6_undo_inX6 hown hK hP 0 rfl rfl 2 (by decide) (hts (.fieldLink RX6 13 "GamefieldModel" "changed" "[I") (by decide +kernel)) (fun _ h9 => h9) rfl dX6_undo_48 ?_
  refine lv_aload_n hx hb dX6_undo_51 rfl (lv_at hl 0 rfl) ?_
  refine va_get (D := D) (ci := 8) (v := .int (nI (kp - 1))) (C := RX6) (T := TX6) (N := 8) hx hb hts nX6_undo_inX6 hown hK hP 0 rfl rfl 4 (by decide) (hts (.fieldLink RX6 49 "GamefieldModel" "kept" "I") (by decide +kernel)) (fun _ h9 => h9) rfl dX6_undo_52 ?_
  refine z_iald hx hb hK hP 2 1 rfl rfl (by omega) (by decide) dX6_undo_55 ?_
  have hP9 := hP.sub (ws' := [(mo, .inr (8, [.int (nI 0), .ref ra, .ref ca, .ref ha, .int (nI (kp - 1)), .ref ba, .int (nI hd), .ref wa])), (ra, .inl (kr, 8, .inl (aN (va_up rf (cf (kp - 1)) (hf (kp - 1)))))), (ca, .inl (kc, 8, .inl (aN cf))), (ha, .inl (kh, 8, .inl (aN hf)))]) [0, 1, 2, 3] rfl
  have hD9 := hD.sub (ws' := [(mo, .inr (8, [.int (nI 0), .ref ra, .ref ca, .ref ha, .int (nI (kp - 1)), .ref ba, .int (nI hd), .ref wa])), (ra, .inl (kr, 8, .inl (aN (va_up rf (cf (kp - 1)) (hf (kp - 1)))))), (ca, .inl (kc, 8, .inl (aN cf))), (ha, .inl (kh, 8, .inl (aN hf)))]) [0, 1, 2, 3] (by decide) rfl
  have hK9 := hK.sub (tys' := [(kr, .int), (kc, .int), (kh, .int)]) [0, 1, 2] rfl
  subst hAe
  refine W.widen (k := 0) (n := 0) (Nat.le_of_ble_eq_true rfl) (Nat.le_of_ble_eq_true rfl) ?_
  exact W.iret hx hb hr (fun t ht hW => ⟨⟨_, (), rfl, (rfl), by rw [ht]; exact hP9, va_K.moved hW.alike hK9, hD9⟩, hS.F ht⟩) hS.2.2 dX6_undo_56
abbrev rm_c_X6_solve_ok : Room := { frames := 4, cells := 0, slots := 0, locals := 116 }
abbrev q_c_X6_solve_ok (D : va_G) (sz : Nat) (mo : Nat) (ra : Nat) (ca : Nat) (ha : Nat) (ba : Nat) (wa : Nat) (kp : Nat) (hd : Nat) (kr : ClassId) (kc : ClassId) (kh : ClassId) (th : Nat) (rf : Nat → Nat) (cf : Nat → Nat) (hf : Nat → Nat) (j : Nat) (k : Nat) (i : Nat) (g : Bool) : Array Value → State → Outcome → State → Prop := va_Qi (fun r (_ : Unit) => r = (nI i)) (fun (_ : Unit) t => va_P D vwCl [(mo, .inr (8, [.int (nI 0), .ref ra, .ref ca, .ref ha, .int (nI (min kp 7 + 1)), .ref ba, .int (nI hd), .ref wa])), (ra, .inl (kr, 8, .inl (aN (va_up rf j i)))), (ca, .inl (kc, 8, .inl (aN (rng cf kp j)))), (ha, .inl (kh, 8, .inl (aN (rng hf kp (rf j)))))] t.heap ∧ va_K D vwCl [(kr, .int), (kc, .int), (kh, .int)] t ∧ va_D (va_A [(mo, .inr (8, [.int (nI th), .ref ra, .ref ca, .ref ha, .int (nI kp), .ref ba, .int (nI hd), .ref wa])), (ra, .inl (kr, 8, .inl (aN rf))), (ca, .inl (kc, 8, .inl (aN cf))), (ha, .inl (kh, 8, .inl (aN hf)))] sz) [(mo, .inr (8, [.int (nI 0), .ref ra, .ref ca, .ref ha, .int (nI (min kp 7 + 1)), .ref ba, .int (nI hd), .ref wa])), (ra, .inl (kr, 8, .inl (aN (va_up rf j i)))), (ca, .inl (kc, 8, .inl (aN (rng cf kp j)))), (ha, .inl (kh, 8, .inl (aN (rng hf kp (rf j)))))]) (va_A [(mo, .inr (8, [.int (nI th), .ref ra, .ref ca, .ref ha, .int (nI kp), .ref ba, .int (nI hd), .ref wa])), (ra, .inl (kr, 8, .inl (aN rf))), (ca, .inl (kc, 8, .inl (aN cf))), (ha, .inl (kh, 8, .inl (aN hf)))] sz)
set_option maxHeartbeats 4000000 in
set_option maxRecDepth 100000 in
theorem c_X6_solve_ok (l : Launch) (D : va_G) (sz : Nat) (mo : Nat) (ra : Nat) (ca : Nat) (ha : Nat) (ba : Nat) (wa : Nat) (kp : Nat) (hd : Nat) (kr : ClassId) (kc : ClassId) (kh : ClassId) (th : Nat) (rf : Nat → Nat) (cf : Nat → Nat) (hf : Nat → Nat) (j : Nat) (k : Nat) (i : Nat) (g : Bool) (hrf : ∀ k, k < 8 → rf k < 256) (hkp : kp ≤ 8) (hj : j < 8) (hk : k < 8) (hsl : sl (rf k) g = some i) : Met l yX6_solve wsX6_solve rm_c_X6_solve_ok (va_Pc [.ref mo, .int (nI j), .int (nI k), .int (bI g)] (fun U => U.heap.size = sz ∧ va_P D vwCl [(mo, .inr (8, [.int (nI th), .ref ra, .ref ca, .ref ha, .int (nI kp), .ref ba, .int (nI hd), .ref wa])), (ra, .inl (kr, 8, .inl (aN rf))), (ca, .inl (kc, 8, .inl (aN cf))), (ha, .inl (kh, 8, .inl (aN hf)))] U.heap ∧ va_K D vwCl [(kr, .int), (kc, .int), (kh, .int)] U ∧ va_D (fun _ => True) [(mo, .inr (8, [.int (nI th), .ref ra, .ref ca, .ref ha, .int (nI kp), .ref ba, .int (nI hd), .ref wa])), (ra, .inl (kr, 8, .inl (aN rf))), (ca, .inl (kc, 8, .inl (aN cf))), (ha, .inl (kh, 8, .inl (aN hf)))])) (q_c_X6_solve_ok D sz mo ra ca ha ba wa kp hd kr kc kh th rf cf hf j k i g) 0 0 (va_A [(mo, .inr (8, [.int (nI th), .ref ra, .ref ca, .ref ha, .int (nI kp), .ref ba, .int (nI hd), .ref wa])), (ra, .inl (kr, 8, .inl (aN rf))), (ca, .inl (kc, 8, .inl (aN cf))), (ha, .inl (kh, 8, .inl (aN hf)))] sz) := by
  refine Met.ofW (cc := cX6_solve) (maxL := 7) (ret := (some .int)) (by decide) rfl ?_
  intro p e s m args below meth c s₁ B hml hv
  obtain ⟨hargs, hsz, hP, hK, hD0⟩ := hv
  have hx := B.exec
  have hb := B.bytes
  have hr := B.returns
  have hts := atoms_spec (ws := wsX6_solve) B.pre
  have hown : s.vm.findClass RX6 = some m.cls := findClass_of_methodNamed B.named
  have hlocks := B.notSynchronized
  subst hsz
  have hD := hD0.self (sz := s.heap.size)
  generalize hAe : va_A [(mo, .inr (8, [.int (nI th), .ref ra, .ref ca, .ref ha, .int (nI kp), .ref ba, .int (nI hd), .ref wa])), (ra, .inl (kr, 8, .inl (aN rf))), (ca, .inl (kc, 8, .inl (aN cf))), (ha, .inl (kh, 8, .inl (aN hf)))] s.heap.size = A at hD ⊢
  have hA : ∀ q : Nat, s.heap.size ≤ q → A q := fun q h => by rw [← hAe]; exact Or.inr h
  have hS : va_S A s.heap s.heap [] := va_S.rf
  have hl := lv_entry ([.ref mo, .int (nI j), .int (nI k), .int (bI g)]) (n := 7) (Nat.le_of_ble_eq_true rfl)
  refine W.eq (g2 := F0 m 0 (lg_sl ([.ref mo, .int (nI j), .int (nI k), .int (bI g)]) ++ List.replicate (7 - (lg_sl ([.ref mo, .int (nI j), .int (nI k), .int (bI g)])).length) Slot.unset).toArray []) (by rw [hargs]; exact lg_entry_eq _ _ _) ?_
  generalize (lg_sl ([.ref mo, .int (nI j), .int (nI k), .int (bI g)]) ++ List.replicate (7 - (lg_sl ([.ref mo, .int (nI j), .int (nI k), .int (bI g)])).length) Slot.unset).toArray = ls at hl ⊢
  have hl : lv_has ls 7 [(0, .ref mo), (1, .int (nI j)), (2, .int (nI k)), (3, .int (bI g))] := hl
  refine lv_aload_n hx hb dX6_solve_0 rfl (lv_at hl 0 rfl) ?_
  refine lv_iload_n hx hb dX6_solve_1 rfl (lv_at hl 1 rfl) ?_
  refine lv_iload_n hx hb dX6_solve_2 rfl (lv_at hl 2 rfl) ?_
  refine lv_iconst (v := nI 0) hx hb dX6_solve_3 zki_0 ?_
  have hPc := hP.sub (ws' := [(mo, .inr (8, [.int (nI th), .ref ra, .ref ca, .ref ha, .int (nI kp), .ref ba, .int (nI hd), .ref wa]))]) [0] rfl
  have hDc := hD.sub (ws' := [(mo, .inr (8, [.int (nI th), .ref ra, .ref ca, .ref ha, .int (nI kp), .ref ba, .int (nI hd), .ref wa]))]) [0] (by decide) rfl
  have hKc := hK.sub (tys' := []) [] rfl
  have hFc := va_free (wc := [(mo, .inr (8, [.int (nI th), .ref ra, .ref ca, .ref ha, .int (nI kp), .ref ba, .int (nI hd), .ref wa]))]) hD hS hA [0] rfl
  refine va_calli (va_runV (As := [.int (nI j), .int (nI k), .int (nI 0)]) (rest := []) ⟨hx, hb, hml, hown, hts⟩ (c_X6_areNone_ok l D s.heap.size mo ra ca ha ba wa kp hd th j k 0 (by omega) (by omega) (by omega)) (cwV 3 hts gX6_solve_X6_areNone rfl rfl rfl (by decide +kernel) ⟨Nat.le_of_ble_eq_true rfl, Nat.le_of_ble_eq_true rfl⟩) ⟨(z_fb2), va_recv hK hP (ci := 8) (q0 := 0) rfl rfl, fun U hU hW => ⟨rfl, by rw [hU], by rw [hU]; exact hPc, va_K.moved hW.alike hKc, hDc.weaken (fun _ _ _ _ => trivial)⟩⟩ rfl rfl hl.1 rfl (lv_room (Nat.le_of_ble_eq_true rfl)) dX6_solve_4 ⟨Nat.le_of_ble_eq_true rfl, Nat.le_of_ble_eq_true rfl⟩) hS (fun q _ h => hFc q h) hFc (fun r4 u4 t H locs ht hvm e4 hB hz1 hk1 hS => ?_)
  obtain ⟨hP1, hK1, hD1⟩ := hB
  rw [ht] at hP1
  obtain ⟨hP, hD⟩ := va_join (wr := [(ra, .inl (kr, 8, .inl (aN rf))), (ca, .inl (kc, 8, .inl (aN cf))), (ha, .inl (kh, 8, .inl (aN hf)))]) (w1 := [(mo, .inr (8, [.int (nI 0), .ref ra, .ref ca, .ref ha, .int (nI kp), .ref ba, .int (nI hd), .ref wa]))]) hP hD [0] [1, 2, 3] rfl rfl (by decide) (by decide) hk1 hFc hP1 hD1
  have hP : va_P D vwCl [(ra, .inl (kr, 8, .inl (aN rf))), (ca, .inl (kc, 8, .inl (aN cf))), (ha, .inl (kh, 8, .inl (aN hf))), (mo, .inr (8, [.int (nI 0), .ref ra, .ref ca, .ref ha, .int (nI kp), .ref ba, .int (nI hd), .ref wa]))] H := hP
  have hD : va_D A [(ra, .inl (kr, 8, .inl (aN rf))), (ca, .inl (kc, 8, .inl (aN cf))), (ha, .inl (kh, 8, .inl (aN hf))), (mo, .inr (8, [.int (nI 0), .ref ra, .ref ca, .ref ha, .int (nI kp), .ref ba, .int (nI hd), .ref wa]))] := hD
  refine W.widen (k := 0) (n := 0) (Nat.le_of_ble_eq_true rfl) (Nat.le_of_ble_eq_true rfl) ?_
  subst e4
  refine z_beq (tgt := 12) hx hb dX6_solve_7 (by decide) (fun c_7 => ?_) (fun c_7 => absurd c_7 (by decide))
  refine lv_iconst (v := (-1)) hx hb dX6_solve_12 zki_m1 ?_
  refine lv_istore (lv' := [(4, .int (-1)), (0, .ref mo), (1, .int (nI j)), (2, .int (nI k)), (3, .int (bI g))]) hx hb dX6_solve_13 hl (by decide) rfl (fun ls hl => ?_)
  refine lv_iconst (v := nI 0) hx hb dX6_solve_15 zki_0 ?_
  refine lv_istore (lv' := [(5, .int (nI 0)), (4, .int (-1)), (0, .ref mo), (1, .int (nI j)), (2, .int (nI k)), (3, .int (bI g))]) hx hb dX6_solve_16 hl (by decide) rfl (fun ls hl => ?_)
  have cut_18 : ∀ (nn9 : Nat) (n : Nat) (hn : n ≤ 256) (hn9 : 256 - n < nn9) (H : Heap) (locs : List Loc) (hP : va_P D vwCl [(mo, .inr (8, [.int (nI 0), .ref ra, .ref ca, .ref ha, .int (nI kp), .ref ba, .int (nI hd), .ref wa])), (ra, .inl (kr, 8, .inl (aN rf))), (ca, .inl (kc, 8, .inl (aN cf))), (ha, .inl (kh, 8, .inl (aN hf)))] H) (hD : va_D A [(mo, .inr (8, [.int (nI 0), .ref ra, .ref ca, .ref ha, .int (nI kp), .ref ba, .int (nI hd), .ref wa])), (ra, .inl (kr, 8, .inl (aN rf))), (ca, .inl (kc, 8, .inl (aN cf))), (ha, .inl (kh, 8, .inl (aN hf)))]) (hS : va_S A s.heap H locs) (ls : Array Slot) (hl : lv_has ls 7 [(0, .ref mo), (1, .int (nI j)), (2, .int (nI k)), (3, .int (bI g)), (4, .int (oI (slk (rf k) g n))), (5, .int (nI n))]), W p l e (headSpec wsX6_solve rm_c_X6_solve_ok).room s m args below meth c H locs 0 0 (MQ below (q_c_X6_solve_ok D s.heap.size mo ra ca ha ba wa kp hd kr kc kh th rf cf hf j k i g) args s 0 0 A) (F0 m 18 ls []) := by
    intro nn9
    induction nn9 with
    | zero => intro n hn hn9; exact absurd hn9 (Nat.not_lt_zero _)
    | succ nn9 ih_18 =>
      intro n hn hn9 H locs hP hD hS ls hl
      refine lv_iload hx hb dX6_solve_18 (lv_at hl 5 rfl) ?_
      refine lv_sipush (v := nI 256) hx hb dX6_solve_20 zks_256 ?_
      refine z_cge (tgt := 84) hx hb (by omega) (by omega) dX6_solve_23 (by decide) (fun c_23 => ?_) (fun c_23 => ?_)
      · refine lv_aload_n hx hb dX6_solve_84 rfl (lv_at hl 0 rfl) ?_
        refine lv_iload hx hb dX6_solve_85 (lv_at hl 4 rfl) ?_
        refine lv_iconst (v := (-1)) hx hb dX6_solve_87 zki_m1 ?_
        refine lv_icmp_ne (tgt := 95) hx hb dX6_solve_88 (by decide) (fun c_88 => ?_) (fun c_88 => absurd ((z_oI (fun n h => by have := slk_lt h; omega)).mp c_88) (by rw [show n = 256 by omega]; intro q; rw [show slk (rf k) g 256 = some i from hsl] at q; cases q))
        refine lv_iconst (v := nI 0) hx hb dX6_solve_95 zki_0 ?_
        refine lv_iconst (v := nI 2) hx hb dX6_solve_96 zki_2 ?_
        have hPc := hP.sub (ws' := [(mo, .inr (8, [.int (nI 0), .ref ra, .ref ca, .ref ha, .int (nI kp), .ref ba, .int (nI hd), .ref wa]))]) [0] rfl
        have hDc := hD.sub (ws' := [(mo, .inr (8, [.int (nI 0), .ref ra, .ref ca, .ref ha, .int (nI kp), .ref ba, .int (nI hd), .ref wa]))]) [0] (by decide) rfl
        have hKc := hK.sub (tys' := []) [] rfl
        have hFc := va_free (wc := [(mo, .inr (8, [.int (nI 0), .ref ra, .ref ca, .ref ha, .int (nI kp), .ref ba, .int (nI hd), .ref wa]))]) hD hS hA [0] rfl
        refine va_calli (va_runV (As := [.int (nI 0), .int (nI 2)]) (rest := []) ⟨hx, hb, hml, hown, hts⟩ (c_X6_fails_false l D H.size mo ra ca ha ba wa kp hd 2 (by omega) (by omega)) (cwV 2 hts gX6_solve_X6_fails rfl rfl rfl (by decide +kernel) ⟨Nat.le_of_ble_eq_true rfl, Nat.le_of_ble_eq_true rfl⟩) ⟨(z_fb2), va_recv hK hP (ci := 8) (q0 := 0) rfl rfl, fun U hU hW => ⟨rfl, by rw [hU], by rw [hU]; exact hPc, va_K.moved hW.alike hKc, hDc.weaken (fun _ _ _ _ => trivial)⟩⟩ rfl rfl hl.1 rfl (lv_room (Nat.le_of_ble_eq_true rfl)) dX6_solve_97 ⟨Nat.le_of_ble_eq_true rfl, Nat.le_of_ble_eq_true rfl⟩) hS (fun q _ h => hFc q h) hFc (fun r97 u97 t H locs ht hvm e97 hB hz1 hk1 hS => ?_)
        obtain ⟨hP1, hK1, hD1⟩ := hB
        rw [ht] at hP1
        obtain ⟨hP, hD⟩ := va_join (wr := [(ra, .inl (kr, 8, .inl (aN rf))), (ca, .inl (kc, 8, .inl (aN cf))), (ha, .inl (kh, 8, .inl (aN hf)))]) (w1 := [(mo, .inr (8, [.int (nI 0), .ref ra, .ref ca, .ref ha, .int (nI kp), .ref ba, .int (nI hd), .ref wa]))]) hP hD [0] [1, 2, 3] rfl rfl (by decide) (by decide) hk1 hFc hP1 hD1
        have hP : va_P D vwCl [(ra, .inl (kr, 8, .inl (aN rf))), (ca, .inl (kc, 8, .inl (aN cf))), (ha, .inl (kh, 8, .inl (aN hf))), (mo, .inr (8, [.int (nI 0), .ref ra, .ref ca, .ref ha, .int (nI kp), .ref ba, .int (nI hd), .ref wa]))] H := hP
        have hD : va_D A [(ra, .inl (kr, 8, .inl (aN rf))), (ca, .inl (kc, 8, .inl (aN cf))), (ha, .inl (kh, 8, .inl (aN hf))), (mo, .inr (8, [.int (nI 0), .ref ra, .ref ca, .ref ha, .int (nI kp), .ref ba, .int (nI hd), .ref wa]))] := hD
        refine W.widen (k := 0) (n := 0) (Nat.le_of_ble_eq_true rfl) (Nat.le_of_ble_eq_true rfl) ?_
        subst e97
        refine z_beq (tgt := 107) hx hb dX6_solve_100 (by decide) (fun c_100 => ?_) (fun c_100 => absurd c_100 (by decide))
        have hs9 : slk (rf k) g n = some i := by rw [show n = 256 by omega]; exact hsl
        have hi9 : i < 256 := by have := slk_lt hs9; omega
        have hl : lv_has ls 7 [(0, .ref mo), (1, .int (nI j)), (2, .int (nI k)), (3, .int (bI g)), (4, .int (nI i)), (5, .int (nI n))] := by rw [hs9] at hl; exact hl
        have hr_j : rf j < 256 := hrf _ (by omega)
        refine lv_aload_n hx hb dX6_solve_107 rfl (lv_at hl 0 rfl) ?_
        refine lv_iload_n hx hb dX6_solve_108 rfl (lv_at hl 1 rfl) ?_
        refine lv_iload hx hb dX6_solve_109 (lv_at hl 4 rfl) ?_
        have hPc := hP.sub (ws' := [(mo, .inr (8, [.int (nI 0), .ref ra, .ref ca, .ref ha, .int (nI kp), .ref ba, .int (nI hd), .ref wa])), (ra, .inl (kr, 8, .inl (aN rf))), (ca, .inl (kc, 8, .inl (aN cf))), (ha, .inl (kh, 8, .inl (aN hf)))]) [3, 0, 1, 2] rfl
        have hDc := hD.sub (ws' := [(mo, .inr (8, [.int (nI 0), .ref ra, .ref ca, .ref ha, .int (nI kp), .ref ba, .int (nI hd), .ref wa])), (ra, .inl (kr, 8, .inl (aN rf))), (ca, .inl (kc, 8, .inl (aN cf))), (ha, .inl (kh, 8, .inl (aN hf)))]) [3, 0, 1, 2] (by decide) rfl
        have hKc := hK.sub (tys' := [(kr, .int), (kc, .int), (kh, .int)]) [0, 1, 2] rfl
        have hFc := va_free (wc := [(mo, .inr (8, [.int (nI 0), .ref ra, .ref ca, .ref ha, .int (nI kp), .ref ba, .int (nI hd), .ref wa])), (ra, .inl (kr, 8, .inl (aN rf))), (ca, .inl (kc, 8, .inl (aN cf))), (ha, .inl (kh, 8, .inl (aN hf)))]) hD hS hA [3, 0, 1, 2] rfl
        refine va_calli (va_runV (As := [.int (nI j), .int (nI i)]) (rest := []) ⟨hx, hb, hml, hown, hts⟩ (c_X6_becomes l D H.size mo ra ca ha ba wa kp hd kr kc kh 0 rf cf hf j i (by omega) (by omega) (by omega) (by omega)) (cwV 2 hts gX6_solve_X6_becomes rfl rfl rfl (by decide +kernel) ⟨Nat.le_of_ble_eq_true rfl, Nat.le_of_ble_eq_true rfl⟩) ⟨(z_fb2), va_recv hK hP (ci := 8) (q0 := 3) rfl rfl, fun U hU hW => ⟨rfl, by rw [hU], by rw [hU]; exact hPc, va_K.moved hW.alike hKc, hDc.weaken (fun _ _ _ _ => trivial)⟩⟩ rfl rfl hl.1 rfl (lv_room (Nat.le_of_ble_eq_true rfl)) dX6_solve_111 ⟨Nat.le_of_ble_eq_true rfl, Nat.le_of_ble_eq_true rfl⟩) hS (fun q _ h => hFc q h) hFc (fun r111 u111 t H locs ht hvm e111 hB hz1 hk1 hS => ?_)
        obtain ⟨hP1, hK1, hD1⟩ := hB
        rw [ht] at hP1
        obtain ⟨hP, hD⟩ := va_join (wr := []) (w1 := [(mo, .inr (8, [.int (nI 0), .ref ra, .ref ca, .ref ha, .int (nI (min kp 7 + 1)), .ref ba, .int (nI hd), .ref wa])), (ra, .inl (kr, 8, .inl (aN (va_up rf j i)))), (ca, .inl (kc, 8, .inl (aN (rng cf kp j)))), (ha, .inl (kh, 8, .inl (aN (rng hf kp (rf j)))))]) hP hD [3, 0, 1, 2] [] rfl rfl (by decide) (by decide) hk1 hFc hP1 hD1
        have hP : va_P D vwCl [(mo, .inr (8, [.int (nI 0), .ref ra, .ref ca, .ref ha, .int (nI (min kp 7 + 1)), .ref ba, .int (nI hd), .ref wa])), (ra, .inl (kr, 8, .inl (aN (va_up rf j i)))), (ca, .inl (kc, 8, .inl (aN (rng cf kp j)))), (ha, .inl (kh, 8, .inl (aN (rng hf kp (rf j)))))] H := hP
        have hD : va_D A [(mo, .inr (8, [.int (nI 0), .ref ra, .ref ca, .ref ha, .int (nI (min kp 7 + 1)), .ref ba, .int (nI hd), .ref wa])), (ra, .inl (kr, 8, .inl (aN (va_up rf j i)))), (ca, .inl (kc, 8, .inl (aN (rng cf kp j)))), (ha, .inl (kh, 8, .inl (aN (rng hf kp (rf j)))))] := hD
        refine W.widen (k := 0) (n := 0) (Nat.le_of_ble_eq_true rfl) (Nat.le_of_ble_eq_true rfl) ?_
        subst e111
        have hP9 := hP.sub (ws' := [(mo, .inr (8, [.int (nI 0), .ref ra, .ref ca, .ref ha, .int (nI (min kp 7 + 1)), .ref ba, .int (nI hd), .ref wa])), (ra, .inl (kr, 8, .inl (aN (va_up rf j i)))), (ca, .inl (kc, 8, .inl (aN (rng cf kp j)))), (ha, .inl (kh, 8, .inl (aN (rng hf kp (rf j)))))]) [0, 1, 2, 3] rfl
        have hD9 := hD.sub (ws' := [(mo, .inr (8, [.int (nI 0), .ref ra, .ref ca, .ref ha, .int (nI (min kp 7 + 1)), .ref ba, .int (nI hd), .ref wa])), (ra, .inl (kr, 8, .inl (aN (va_up rf j i)))), (ca, .inl (kc, 8, .inl (aN (rng cf kp j)))), (ha, .inl (kh, 8, .inl (aN (rng hf kp (rf j)))))]) [0, 1, 2, 3] (by decide) rfl
        have hK9 := hK.sub (tys' := [(kr, .int), (kc, .int), (kh, .int)]) [0, 1, 2] rfl
        subst hAe
        refine W.widen (k := 0) (n := 0) (Nat.le_of_ble_eq_true rfl) (Nat.le_of_ble_eq_true rfl) ?_
        exact W.iret hx hb hr (fun t ht hW => ⟨⟨_, (), rfl, (rfl), by rw [ht]; exact hP9, va_K.moved hW.alike hK9, hD9⟩, hS.F ht⟩) hS.2.2 dX6_solve_114
      · refine lv_iload hx hb dX6_solve_26 (lv_at hl 5 rfl) ?_
        refine lv_iload hx hb dX6_solve_28 (lv_at hl 5 rfl) ?_
        refine z_ci (va_runS (As := [.int (nI n), .int (nI n)]) (rest := []) ⟨hx, hb, hml, hown, hts⟩ (c_X6_productOf_256 l D n n (by omega) (by omega)) (va_cwS 2 hts gX6_solve_X6_productOf rfl rfl rfl (by decide +kernel) ⟨Nat.le_of_ble_eq_true rfl, Nat.le_of_ble_eq_true rfl⟩) ⟨z_fb0, fun U hU hW => ⟨rfl, trivial⟩⟩ rfl rfl hl.1 rfl (lv_room (Nat.le_of_ble_eq_true rfl)) dX6_solve_30 ⟨Nat.le_of_ble_eq_true rfl, Nat.le_of_ble_eq_true rfl⟩) (fun r30 e30 => ?_)
        subst e30
        have hn30 : np n n < 256 := np_lt (by omega) (by omega)
        refine lv_iload hx hb dX6_solve_33 (lv_at hl 5 rfl) ?_
        refine z_ci (va_runS (As := [.int (nI (np n n)), .int (nI n)]) (rest := []) ⟨hx, hb, hml, hown, hts⟩ (c_X6_sumOf l D (np n n) n (by omega) (by omega)) (va_cwS 2 hts gX6_solve_X6_sumOf rfl rfl rfl (by decide +kernel) ⟨Nat.le_of_ble_eq_true rfl, Nat.le_of_ble_eq_true rfl⟩) ⟨z_fb0, fun U hU hW => ⟨rfl, trivial⟩⟩ rfl rfl hl.1 rfl (lv_room (Nat.le_of_ble_eq_true rfl)) dX6_solve_35 ⟨Nat.le_of_ble_eq_true rfl, Nat.le_of_ble_eq_true rfl⟩) (fun r35 e35 => ?_)
        subst e35
        have hx35 : (np n n) ^^^ n < 256 := zx8 (by omega) (by omega)
        refine lv_aload_n hx hb dX6_solve_38 rfl (lv_at hl 0 rfl) ?_
        refine va_get (D := D) (ci := 8) (v := .ref ra) (C := RX6) (T := TX6) (N := 8) hx hb hts nX6_solve_inX6 hown hK hP 0 rfl rfl 1 (by decide) (hts (.fieldLink RX6 9 "GamefieldModel" "registers" "[I") (by decide +kernel)) (fun _ h9 => h9) rfl dX6_solve_39 ?_
        have hr_k : rf k < 256 := hrf _ (by omega)
        refine lv_iload_n hx hb dX6_solve_42 rfl (lv_at hl 2 rfl) ?_
        refine z_iald hx hb hK hP 1 0 rfl rfl (by omega) (by decide) dX6_solve_43 ?_
        refine z_cne (tgt := 51) hx hb (by omega) (by omega) dX6_solve_44 (by decide) (fun c_44 => ?_) (fun c_44 => ?_)
        · have e9 : slk (rf k) g n = slk (rf k) g (n + 1) := by rw [slk, if_neg (fun q => c_44 q.1)]
          refine lv_iconst (v := nI 0) hx hb dX6_solve_51 zki_0 ?_
          refine lv_istore (lv' := [(6, .int (nI 0)), (0, .ref mo), (1, .int (nI j)), (2, .int (nI k)), (3, .int (bI g)), (4, .int (oI (slk (rf k) g n))), (5, .int (nI n))]) hx hb dX6_solve_52 hl (by decide) rfl (fun ls hl => ?_)
          refine lv_iload hx hb dX6_solve_54 (lv_at hl 0 rfl) ?_
          refine z_feq (tgt := 74) hx hb (by omega) dX6_solve_56 (by decide) (fun c_56 => ?_) (fun c_56 => absurd c_56 (by decide))
          refine lv_iload hx hb dX6_solve_74 (lv_at hl 5 rfl) ?_
          refine lv_istore (lv' := [(4, .int (oI (slk (rf k) g n))), (6, .int (nI 0)), (0, .ref mo), (1, .int (nI j)), (2, .int (nI k)), (3, .int (bI g)), (5, .int (nI n))]) hx hb dX6_solve_76 hl (by decide) rfl (fun ls hl => ?_)
          refine lv_iinc (v := (nI (n + 1))) (lv' := [(5, .int (nI (n + 1))), (4, .int (oI (slk (rf k) g n))), (6, .int (nI 0)), (0, .ref mo), (1, .int (nI j)), (2, .int (nI k)), (3, .int (bI g))]) hx hb dX6_solve_78 hl (k := 6) rfl (z_inc n 1) (by decide) rfl (fun ls hl => ?_)
          refine lv_goto (tgt := 18) hx hb dX6_solve_81 (by decide) ?_
          have hl : lv_has ls 7 [(5, .int (nI (n + 1))), (4, .int (oI (slk (rf k) g (n + 1)))), (6, .int (nI 0)), (0, .ref mo), (1, .int (nI j)), (2, .int (nI k)), (3, .int (bI g))] := Eq.mp (congrArg (fun z9 => lv_has ls 7 [(5, .int (nI (n + 1))), (4, .int z9), (6, .int (nI 0)), (0, .ref mo), (1, .int (nI j)), (2, .int (nI k)), (3, .int (bI g))]) (congrArg oI (show slk (rf k) g n = slk (rf k) g (n + 1) from e9))) hl
          exact ih_18 (n + 1) (by omega) (by omega) H locs hP hD hS ls (lv_sub hl [3, 4, 5, 6, 1, 0] rfl)
        · refine lv_iconst (v := nI 1) hx hb dX6_solve_47 zki_1 ?_
          refine lv_goto (tgt := 52) hx hb dX6_solve_48 (by decide) ?_
          refine lv_istore (lv' := [(6, .int (nI 1)), (0, .ref mo), (1, .int (nI j)), (2, .int (nI k)), (3, .int (bI g)), (4, .int (oI (slk (rf k) g n))), (5, .int (nI n))]) hx hb dX6_solve_52 hl (by decide) rfl (fun ls hl => ?_)
          refine lv_iload hx hb dX6_solve_54 (lv_at hl 0 rfl) ?_
          refine z_feq (tgt := 74) hx hb (by omega) dX6_solve_56 (by decide) (fun c_56 => absurd c_56 (by decide)) (fun c_56 => ?_)
          refine lv_iload hx hb dX6_solve_59 (lv_at hl 5 rfl) ?_
          refine lv_iconst (v := (-1)) hx hb dX6_solve_61 zki_m1 ?_
          refine lv_icmp_eq (tgt := 69) hx hb dX6_solve_62 (by decide) (fun c_62 => ?_) (fun c_62 => ?_)
          · have hfree : (slk (rf k) g n).isNone = true ∨ g = true := Or.inl (by rw [(z_oI (fun n h => by have := slk_lt h; omega)).mp c_62]; rfl)
            have e9 : nI n = oI (slk (rf k) g (n + 1)) := by rw [slk, if_pos ⟨c_44, hfree⟩]; rfl
            refine lv_iload hx hb dX6_solve_69 (lv_at hl 6 rfl) ?_
            refine lv_goto (tgt := 76) hx hb dX6_solve_71 (by decide) ?_
            refine lv_istore (lv' := [(4, .int (nI n)), (6, .int (nI 1)), (0, .ref mo), (1, .int (nI j)), (2, .int (nI k)), (3, .int (bI g)), (5, .int (nI n))]) hx hb dX6_solve_76 hl (by decide) rfl (fun ls hl => ?_)
            refine lv_iinc (v := (nI (n + 1))) (lv' := [(5, .int (nI (n + 1))), (4, .int (nI n)), (6, .int (nI 1)), (0, .ref mo), (1, .int (nI j)), (2, .int (nI k)), (3, .int (bI g))]) hx hb dX6_solve_78 hl (k := 6) rfl (z_inc n 1) (by decide) rfl (fun ls hl => ?_)
            refine lv_goto (tgt := 18) hx hb dX6_solve_81 (by decide) ?_
            have hl : lv_has ls 7 [(5, .int (nI (n + 1))), (4, .int (oI (slk (rf k) g (n + 1)))), (6, .int (nI 1)), (0, .ref mo), (1, .int (nI j)), (2, .int (nI k)), (3, .int (bI g))] := Eq.mp (congrArg (fun z9 => lv_has ls 7 [(5, .int (nI (n + 1))), (4, .int z9), (6, .int (nI 1)), (0, .ref mo), (1, .int (nI j)), (2, .int (nI k)), (3, .int (bI g))]) ((show (nI n) = (oI (slk (rf k) g (n + 1))) from e9))) hl
            exact ih_18 (n + 1) (by omega) (by omega) H locs hP hD hS ls (lv_sub hl [3, 4, 5, 6, 1, 0] rfl)
          · refine lv_iload_n hx hb dX6_solve_65 rfl (lv_at hl 4 rfl) ?_
            refine z_beq (tgt := 74) hx hb dX6_solve_66 (by decide) (fun c_66 => ?_) (fun c_66 => ?_)
            · have e9 : slk (rf k) g n = slk (rf k) g (n + 1) := by
                rw [slk, if_neg]
                rintro ⟨-, q | q⟩
                · exact c_62 ((z_oI (fun n h => by have := slk_lt h; omega)).mpr (Option.isNone_iff_eq_none.mp q))
                · rw [c_66] at q; cases q
              refine lv_iload hx hb dX6_solve_74 (lv_at hl 5 rfl) ?_
              refine lv_istore (lv' := [(4, .int (oI (slk (rf k) g n))), (6, .int (nI 1)), (0, .ref mo), (1, .int (nI j)), (2, .int (nI k)), (3, .int (bI g)), (5, .int (nI n))]) hx hb dX6_solve_76 hl (by decide) rfl (fun ls hl => ?_)
              refine lv_iinc (v := (nI (n + 1))) (lv' := [(5, .int (nI (n + 1))), (4, .int (oI (slk (rf k) g n))), (6, .int (nI 1)), (0, .ref mo), (1, .int (nI j)), (2, .int (nI k)), (3, .int (bI g))]) hx hb dX6_solve_78 hl (k := 6) rfl (z_inc n 1) (by decide) rfl (fun ls hl => ?_)
              refine lv_goto (tgt := 18) hx hb dX6_solve_81 (by decide) ?_
              have hl : lv_has ls 7 [(5, .int (nI (n + 1))), (4, .int (oI (slk (rf k) g (n + 1)))), (6, .int (nI 1)), (0, .ref mo), (1, .int (nI j)), (2, .int (nI k)), (3, .int (bI g))] := Eq.mp (congrArg (fun z9 => lv_has ls 7 [(5, .int (nI (n + 1))), (4, .int z9), (6, .int (nI 1)), (0, .ref mo), (1, .int (nI j)), (2, .int (nI k)), (3, .int (bI g))]) (congrArg oI (show slk (rf k) g n = slk (rf k) g (n + 1) from e9))) hl
              exact ih_18 (n + 1) (by omega) (by omega) H locs hP hD hS ls (lv_sub hl [3, 4, 5, 6, 1, 0] rfl)
            · have hfree : (slk (rf k) g n).isNone = true ∨ g = true := Or.inr c_66
              have e9 : nI n = oI (slk (rf k) g (n + 1)) := by rw [slk, if_pos ⟨c_44, hfree⟩]; rfl
              refine lv_iload hx hb dX6_solve_69 (lv_at hl 6 rfl) ?_
              refine lv_goto (tgt := 76) hx hb dX6_solve_71 (by decide) ?_
              refine lv_istore (lv' := [(4, .int (nI n)), (6, .int (nI 1)), (0, .ref mo), (1, .int (nI j)), (2, .int (nI k)), (3, .int (bI g)), (5, .int (nI n))]) hx hb dX6_solve_76 hl (by decide) rfl (fun ls hl => ?_)
              refine lv_iinc (v := (nI (n + 1))) (lv' := [(5, .int (nI (n + 1))), (4, .int (nI n)), (6, .int (nI 1)), (0, .ref mo), (1, .int (nI j)), (2, .int (nI k)), (3, .int (bI g))]) hx hb dX6_solve_78 hl (k := 6) rfl (z_inc n 1) (by decide) rfl (fun ls hl => ?_)
              refine lv_goto (tgt := 18) hx hb dX6_solve_81 (by decide) ?_
              have hl : lv_has ls 7 [(5, .int (nI (n + 1))), (4, .int (oI (slk (rf k) g (n + 1)))), (6, .int (nI 1)), (0, .ref mo), (1, .int (nI j)), (2, .int (nI k)), (3, .int (bI g))] := Eq.mp (congrArg (fun z9 => lv_has ls 7 [(5, .int (nI (n + 1))), (4, .int z9), (6, .int (nI 1)), (0, .ref mo), (1, .int (nI j)), (2, .int (nI k)), (3, .int (bI g))]) ((show (nI n) = (oI (slk (rf k) g (n + 1))) from e9))) hl
              exact ih_18 (n + 1) (by omega) (by omega) H locs hP hD hS ls (lv_sub hl [3, 4, 5, 6, 1, 0] rfl)
  have hl : lv_has ls 7 [(5, .int (nI 0)), (4, .int (oI (slk (rf k) g 0))), (0, .ref mo), (1, .int (nI j)), (2, .int (nI k)), (3, .int (bI g))] := Eq.mp (congrArg (fun z9 => lv_has ls 7 [(5, .int (nI 0)), (4, .int z9), (0, .ref mo), (1, .int (nI j)), (2, .int (nI k)), (3, .int (bI g))]) ((show (-1) = (oI (slk (rf k) g 0)) from rfl))) hl
  exact cut_18 ((256 - 0) + 1) 0 (by omega) (Nat.lt_succ_self _) H locs (hP.sub [3, 0, 1, 2] rfl) (hD.sub [3, 0, 1, 2] (by decide) rfl) hS ls (lv_sub hl [2, 3, 4, 5, 1, 0] rfl)
abbrev rm_c_X6_solve_bad : Room := { frames := 4, cells := 0, slots := 0, locals := 116 }
abbrev q_c_X6_solve_bad (D : va_G) (sz : Nat) (mo : Nat) (ra : Nat) (ca : Nat) (ha : Nat) (ba : Nat) (wa : Nat) (kp : Nat) (hd : Nat) (kr : ClassId) (kc : ClassId) (kh : ClassId) (th : Nat) (rf : Nat → Nat) (cf : Nat → Nat) (hf : Nat → Nat) (j : Nat) (k : Nat) (g : Bool) : Array Value → State → Outcome → State → Prop := va_Qi (fun r (_ : Unit) => r = (nI 0)) (fun (_ : Unit) t => va_P D vwCl [(mo, .inr (8, [.int (nI 2), .ref ra, .ref ca, .ref ha, .int (nI kp), .ref ba, .int (nI hd), .ref wa])), (ra, .inl (kr, 8, .inl (aN rf))), (ca, .inl (kc, 8, .inl (aN cf))), (ha, .inl (kh, 8, .inl (aN hf)))] t.heap ∧ va_K D vwCl [(kr, .int), (kc, .int), (kh, .int)] t ∧ va_D (va_A [(mo, .inr (8, [.int (nI th), .ref ra, .ref ca, .ref ha, .int (nI kp), .ref ba, .int (nI hd), .ref wa])), (ra, .inl (kr, 8, .inl (aN rf))), (ca, .inl (kc, 8, .inl (aN cf))), (ha, .inl (kh, 8, .inl (aN hf)))] sz) [(mo, .inr (8, [.int (nI 2), .ref ra, .ref ca, .ref ha, .int (nI kp), .ref ba, .int (nI hd), .ref wa])), (ra, .inl (kr, 8, .inl (aN rf))), (ca, .inl (kc, 8, .inl (aN cf))), (ha, .inl (kh, 8, .inl (aN hf)))]) (va_A [(mo, .inr (8, [.int (nI th), .ref ra, .ref ca, .ref ha, .int (nI kp), .ref ba, .int (nI hd), .ref wa])), (ra, .inl (kr, 8, .inl (aN rf))), (ca, .inl (kc, 8, .inl (aN cf))), (ha, .inl (kh, 8, .inl (aN hf)))] sz)
set_option maxHeartbeats 4000000 in
set_option maxRecDepth 100000 in
theorem c_X6_solve_bad (l : Launch) (D : va_G) (sz : Nat) (mo : Nat) (ra : Nat) (ca : Nat) (ha : Nat) (ba : Nat) (wa : Nat) (kp : Nat) (hd : Nat) (kr : ClassId) (kc : ClassId) (kh : ClassId) (th : Nat) (rf : Nat → Nat) (cf : Nat → Nat) (hf : Nat → Nat) (j : Nat) (k : Nat) (g : Bool) (hrf : ∀ k, k < 8 → rf k < 256) (hkp : kp ≤ 8) (hj : j < 8) (hk : k < 8) (hsl : sl (rf k) g = none) : Met l yX6_solve wsX6_solve rm_c_X6_solve_bad (va_Pc [.ref mo, .int (nI j), .int (nI k), .int (bI g)] (fun U => U.heap.size = sz ∧ va_P D vwCl [(mo, .inr (8, [.int (nI th), .ref ra, .ref ca, .ref ha, .int (nI kp), .ref ba, .int (nI hd), .ref wa])), (ra, .inl (kr, 8, .inl (aN rf))), (ca, .inl (kc, 8, .inl (aN cf))), (ha, .inl (kh, 8, .inl (aN hf)))] U.heap ∧ va_K D vwCl [(kr, .int), (kc, .int), (kh, .int)] U ∧ va_D (fun _ => True) [(mo, .inr (8, [.int (nI th), .ref ra, .ref ca, .ref ha, .int (nI kp), .ref ba, .int (nI hd), .ref wa])), (ra, .inl (kr, 8, .inl (aN rf))), (ca, .inl (kc, 8, .inl (aN cf))), (ha, .inl (kh, 8, .inl (aN hf)))])) (q_c_X6_solve_bad D sz mo ra ca ha ba wa kp hd kr kc kh th rf cf hf j k g) 0 0 (va_A [(mo, .inr (8, [.int (nI th), .ref ra, .ref ca, .ref ha, .int (nI kp), .ref ba, .int (nI hd), .ref wa])), (ra, .inl (kr, 8, .inl (aN rf))), (ca, .inl (kc, 8, .inl (aN cf))), (ha, .inl (kh, 8, .inl (aN hf)))] sz) := by
  refine Met.ofW (cc := cX6_solve) (maxL := 7) (ret := (some .int)) (by decide) rfl ?_
  intro p e s m args below meth c s₁ B hml hv
  obtain ⟨hargs, hsz, hP, hK, hD0⟩ := hv
  have hx := B.exec
  have hb := B.bytes
  have hr := B.returns
  have hts := atoms_spec (ws := wsX6_solve) B.pre
  have hown : s.vm.findClass RX6 = some m.cls := findClass_of_methodNamed B.named
  have hlocks := B.notSynchronized
  subst hsz
  have hD := hD0.self (sz := s.heap.size)
  generalize hAe : va_A [(mo, .inr (8, [.int (nI th), .ref ra, .ref ca, .ref ha, .int (nI kp), .ref ba, .int (nI hd), .ref wa])), (ra, .inl (kr, 8, .inl (aN rf))), (ca, .inl (kc, 8, .inl (aN cf))), (ha, .inl (kh, 8, .inl (aN hf)))] s.heap.size = A at hD ⊢
  have hA : ∀ q : Nat, s.heap.size ≤ q → A q := fun q h => by rw [← hAe]; exact Or.inr h
  have hS : va_S A s.heap s.heap [] := va_S.rf
  have hl := lv_entry ([.ref mo, .int (nI j), .int (nI k), .int (bI g)]) (n := 7) (Nat.le_of_ble_eq_true rfl)
  refine W.eq (g2 := F0 m 0 (lg_sl ([.ref mo, .int (nI j), .int (nI k), .int (bI g)]) ++ List.replicate (7 - (lg_sl ([.ref mo, .int (nI j), .int (nI k), .int (bI g)])).length) Slot.unset).toArray []) (by rw [hargs]; exact lg_entry_eq _ _ _) ?_
  generalize (lg_sl ([.ref mo, .int (nI j), .int (nI k), .int (bI g)]) ++ List.replicate (7 - (lg_sl ([.ref mo, .int (nI j), .int (nI k), .int (bI g)])).length) Slot.unset).toArray = ls at hl ⊢
  have hl : lv_has ls 7 [(0, .ref mo), (1, .int (nI j)), (2, .int (nI k)), (3, .int (bI g))] := hl
  refine lv_aload_n hx hb dX6_solve_0 rfl (lv_at hl 0 rfl) ?_
  refine lv_iload_n hx hb dX6_solve_1 rfl (lv_at hl 1 rfl) ?_
  refine lv_iload_n hx hb dX6_solve_2 rfl (lv_at hl 2 rfl) ?_
  refine lv_iconst (v := nI 0) hx hb dX6_solve_3 zki_0 ?_
  have hPc := hP.sub (ws' := [(mo, .inr (8, [.int (nI th), .ref ra, .ref ca, .ref ha, .int (nI kp), .ref ba, .int (nI hd), .ref wa]))]) [0] rfl
  have hDc := hD.sub (ws' := [(mo, .inr (8, [.int (nI th), .ref ra, .ref ca, .ref ha, .int (nI kp), .ref ba, .int (nI hd), .ref wa]))]) [0] (by decide) rfl
  have hKc := hK.sub (tys' := []) [] rfl
  have hFc := va_free (wc := [(mo, .inr (8, [.int (nI th), .ref ra, .ref ca, .ref ha, .int (nI kp), .ref ba, .int (nI hd), .ref wa]))]) hD hS hA [0] rfl
  refine va_calli (va_runV (As := [.int (nI j), .int (nI k), .int (nI 0)]) (rest := []) ⟨hx, hb, hml, hown, hts⟩ (c_X6_areNone_ok l D s.heap.size mo ra ca ha ba wa kp hd th j k 0 (by omega) (by omega) (by omega)) (cwV 3 hts gX6_solve_X6_areNone rfl rfl rfl (by decide +kernel) ⟨Nat.le_of_ble_eq_true rfl, Nat.le_of_ble_eq_true rfl⟩) ⟨(z_fb2), va_recv hK hP (ci := 8) (q0 := 0) rfl rfl, fun U hU hW => ⟨rfl, by rw [hU], by rw [hU]; exact hPc, va_K.moved hW.alike hKc, hDc.weaken (fun _ _ _ _ => trivial)⟩⟩ rfl rfl hl.1 rfl (lv_room (Nat.le_of_ble_eq_true rfl)) dX6_solve_4 ⟨Nat.le_of_ble_eq_true rfl, Nat.le_of_ble_eq_true rfl⟩) hS (fun q _ h => hFc q h) hFc (fun r4 u4 t H locs ht hvm e4 hB hz1 hk1 hS => ?_)
  obtain ⟨hP1, hK1, hD1⟩ := hB
  rw [ht] at hP1
  obtain ⟨hP, hD⟩ := va_join (wr := [(ra, .inl (kr, 8, .inl (aN rf))), (ca, .inl (kc, 8, .inl (aN cf))), (ha, .inl (kh, 8, .inl (aN hf)))]) (w1 := [(mo, .inr (8, [.int (nI 0), .ref ra, .ref ca, .ref ha, .int (nI kp), .ref ba, .int (nI hd), .ref wa]))]) hP hD [0] [1, 2, 3] rfl rfl (by decide) (by decide) hk1 hFc hP1 hD1
  have hP : va_P D vwCl [(ra, .inl (kr, 8, .inl (aN rf))), (ca, .inl (kc, 8, .inl (aN cf))), (ha, .inl (kh, 8, .inl (aN hf))), (mo, .inr (8, [.int (nI 0), .ref ra, .ref ca, .ref ha, .int (nI kp), .ref ba, .int (nI hd), .ref wa]))] H := hP
  have hD : va_D A [(ra, .inl (kr, 8, .inl (aN rf))), (ca, .inl (kc, 8, .inl (aN cf))), (ha, .inl (kh, 8, .inl (aN hf))), (mo, .inr (8, [.int (nI 0), .ref ra, .ref ca, .ref ha, .int (nI kp), .ref ba, .int (nI hd), .ref wa]))] := hD
  refine W.widen (k := 0) (n := 0) (Nat.le_of_ble_eq_true rfl) (Nat.le_of_ble_eq_true rfl) ?_
  subst e4
  refine z_beq (tgt := 12) hx hb dX6_solve_7 (by decide) (fun c_7 => ?_) (fun c_7 => absurd c_7 (by decide))
  refine lv_iconst (v := (-1)) hx hb dX6_solve_12 zki_m1 ?_
  refine lv_istore (lv' := [(4, .int (-1)), (0, .ref mo), (1, .int (nI j)), (2, .int (nI k)), (3, .int (bI g))]) hx hb dX6_solve_13 hl (by decide) rfl (fun ls hl => ?_)
  refine lv_iconst (v := nI 0) hx hb dX6_solve_15 zki_0 ?_
  refine lv_istore (lv' := [(5, .int (nI 0)), (4, .int (-1)), (0, .ref mo), (1, .int (nI j)), (2, .int (nI k)), (3, .int (bI g))]) hx hb dX6_solve_16 hl (by decide) rfl (fun ls hl => ?_)
  have cut_18 : ∀ (nn9 : Nat) (n : Nat) (hn : n ≤ 256) (hn9 : 256 - n < nn9) (H : Heap) (locs : List Loc) (hP : va_P D vwCl [(mo, .inr (8, [.int (nI 0), .ref ra, .ref ca, .ref ha, .int (nI kp), .ref ba, .int (nI hd), .ref wa])), (ra, .inl (kr, 8, .inl (aN rf))), (ca, .inl (kc, 8, .inl (aN cf))), (ha, .inl (kh, 8, .inl (aN hf)))] H) (hD : va_D A [(mo, .inr (8, [.int (nI 0), .ref ra, .ref ca, .ref ha, .int (nI kp), .ref ba, .int (nI hd), .ref wa])), (ra, .inl (kr, 8, .inl (aN rf))), (ca, .inl (kc, 8, .inl (aN cf))), (ha, .inl (kh, 8, .inl (aN hf)))]) (hS : va_S A s.heap H locs) (ls : Array Slot) (hl : lv_has ls 7 [(0, .ref mo), (1, .int (nI j)), (2, .int (nI k)), (3, .int (bI g)), (4, .int (oI (slk (rf k) g n))), (5, .int (nI n))]), W p l e (headSpec wsX6_solve rm_c_X6_solve_bad).room s m args below meth c H locs 0 0 (MQ below (q_c_X6_solve_bad D s.heap.size mo ra ca ha ba wa kp hd kr kc kh th rf cf hf j k g) args s 0 0 A) (F0 m 18 ls []) := by
    intro nn9
    induction nn9 with
    | zero => intro n hn hn9; exact absurd hn9 (Nat.not_lt_zero _)
    | succ nn9 ih_18 =>
      intro n hn hn9 H locs hP hD hS ls hl
      refine lv_iload hx hb dX6_solve_18 (lv_at hl 5 rfl) ?_
      refine lv_sipush (v := nI 256) hx hb dX6_solve_20 zks_256 ?_
      refine z_cge (tgt := 84) hx hb (by omega) (by omega) dX6_solve_23 (by decide) (fun c_23 => ?_) (fun c_23 => ?_)
      · refine lv_aload_n hx hb dX6_solve_84 rfl (lv_at hl 0 rfl) ?_
        refine lv_iload hx hb dX6_solve_85 (lv_at hl 4 rfl) ?_
        refine lv_iconst (v := (-1)) hx hb dX6_solve_87 zki_m1 ?_
        refine lv_icmp_ne (tgt := 95) hx hb dX6_solve_88 (by decide) (fun c_88 => absurd ((z_oI (fun n h => by have := slk_lt h; omega)).mpr (by rw [show n = 256 by omega]; exact hsl)) c_88) (fun c_88 => ?_)
        refine lv_iconst (v := nI 1) hx hb dX6_solve_91 zki_1 ?_
        refine lv_goto (tgt := 96) hx hb dX6_solve_92 (by decide) ?_
        refine lv_iconst (v := nI 2) hx hb dX6_solve_96 zki_2 ?_
        have hPc := hP.sub (ws' := [(mo, .inr (8, [.int (nI 0), .ref ra, .ref ca, .ref ha, .int (nI kp), .ref ba, .int (nI hd), .ref wa]))]) [0] rfl
        have hDc := hD.sub (ws' := [(mo, .inr (8, [.int (nI 0), .ref ra, .ref ca, .ref ha, .int (nI kp), .ref ba, .int (nI hd), .ref wa]))]) [0] (by decide) rfl
        have hKc := hK.sub (tys' := []) [] rfl
        have hFc := va_free (wc := [(mo, .inr (8, [.int (nI 0), .ref ra, .ref ca, .ref ha, .int (nI kp), .ref ba, .int (nI hd), .ref wa]))]) hD hS hA [0] rfl
        refine va_calli (va_runV (As := [.int (nI 1), .int (nI 2)]) (rest := []) ⟨hx, hb, hml, hown, hts⟩ (c_X6_fails_true l D H.size mo ra ca ha ba wa kp hd 2 (by omega) (by omega)) (cwV 2 hts gX6_solve_X6_fails rfl rfl rfl (by decide +kernel) ⟨Nat.le_of_ble_eq_true rfl, Nat.le_of_ble_eq_true rfl⟩) ⟨(z_fb2), va_recv hK hP (ci := 8) (q0 := 0) rfl rfl, fun U hU hW => ⟨rfl, by rw [hU], by rw [hU]; exact hPc, va_K.moved hW.alike hKc, hDc.weaken (fun _ _ _ _ => trivial)⟩⟩ rfl rfl hl.1 rfl (lv_room (Nat.le_of_ble_eq_true rfl)) dX6_solve_97 ⟨Nat.le_of_ble_eq_true rfl, Nat.le_of_ble_eq_true rfl⟩) hS (fun q _ h => hFc q h) hFc (fun r97 u97 t H locs ht hvm e97 hB hz1 hk1 hS => ?_)
        obtain ⟨hP1, hK1, hD1⟩ := hB
        rw [ht] at hP1
        obtain ⟨hP, hD⟩ := va_join (wr := [(ra, .inl (kr, 8, .inl (aN rf))), (ca, .inl (kc, 8, .inl (aN cf))), (ha, .inl (kh, 8, .inl (aN hf)))]) (w1 := [(mo, .inr (8, [.int (nI 2), .ref ra, .ref ca, .ref ha, .int (nI kp), .ref ba, .int (nI hd), .ref wa]))]) hP hD [0] [1, 2, 3] rfl rfl (by decide) (by decide) hk1 hFc hP1 hD1
        have hP : va_P D vwCl [(ra, .inl (kr, 8, .inl (aN rf))), (ca, .inl (kc, 8, .inl (aN cf))), (ha, .inl (kh, 8, .inl (aN hf))), (mo, .inr (8, [.int (nI 2), .ref ra, .ref ca, .ref ha, .int (nI kp), .ref ba, .int (nI hd), .ref wa]))] H := hP
        have hD : va_D A [(ra, .inl (kr, 8, .inl (aN rf))), (ca, .inl (kc, 8, .inl (aN cf))), (ha, .inl (kh, 8, .inl (aN hf))), (mo, .inr (8, [.int (nI 2), .ref ra, .ref ca, .ref ha, .int (nI kp), .ref ba, .int (nI hd), .ref wa]))] := hD
        refine W.widen (k := 0) (n := 0) (Nat.le_of_ble_eq_true rfl) (Nat.le_of_ble_eq_true rfl) ?_
        subst e97
        refine z_beq (tgt := 107) hx hb dX6_solve_100 (by decide) (fun c_100 => absurd c_100 (by decide)) (fun c_100 => ?_)
        refine lv_iconst (v := nI 0) hx hb dX6_solve_103 zki_0 ?_
        refine lv_goto (tgt := 114) hx hb dX6_solve_104 (by decide) ?_
        have hP9 := hP.sub (ws' := [(mo, .inr (8, [.int (nI 2), .ref ra, .ref ca, .ref ha, .int (nI kp), .ref ba, .int (nI hd), .ref wa])), (ra, .inl (kr, 8, .inl (aN rf))), (ca, .inl (kc, 8, .inl (aN cf))), (ha, .inl (kh, 8, .inl (aN hf)))]) [3, 0, 1, 2] rfl
        have hD9 := hD.sub (ws' := [(mo, .inr (8, [.int (nI 2), .ref ra, .ref ca, .ref ha, .int (nI kp), .ref ba, .int (nI hd), .ref wa])), (ra, .inl (kr, 8, .inl (aN rf))), (ca, .inl (kc, 8, .inl (aN cf))), (ha, .inl (kh, 8, .inl (aN hf)))]) [3, 0, 1, 2] (by decide) rfl
        have hK9 := hK.sub (tys' := [(kr, .int), (kc, .int), (kh, .int)]) [0, 1, 2] rfl
        subst hAe
        refine W.widen (k := 0) (n := 0) (Nat.le_of_ble_eq_true rfl) (Nat.le_of_ble_eq_true rfl) ?_
        exact W.iret hx hb hr (fun t ht hW => ⟨⟨_, (), rfl, (rfl), by rw [ht]; exact hP9, va_K.moved hW.alike hK9, hD9⟩, hS.F ht⟩) hS.2.2 dX6_solve_114
      · refine lv_iload hx hb dX6_solve_26 (lv_at hl 5 rfl) ?_
        refine lv_iload hx hb dX6_solve_28 (lv_at hl 5 rfl) ?_
        refine z_ci (va_runS (As := [.int (nI n), .int (nI n)]) (rest := []) ⟨hx, hb, hml, hown, hts⟩ (c_X6_productOf_256 l D n n (by omega) (by omega)) (va_cwS 2 hts gX6_solve_X6_productOf rfl rfl rfl (by decide +kernel) ⟨Nat.le_of_ble_eq_true rfl, Nat.le_of_ble_eq_true rfl⟩) ⟨z_fb0, fun U hU hW => ⟨rfl, trivial⟩⟩ rfl rfl hl.1 rfl (lv_room (Nat.le_of_ble_eq_true rfl)) dX6_solve_30 ⟨Nat.le_of_ble_eq_true rfl, Nat.le_of_ble_eq_true rfl⟩) (fun r30 e30 => ?_)
        subst e30
        have hn30 : np n n < 256 := np_lt (by omega) (by omega)
        refine lv_iload hx hb dX6_solve_33 (lv_at hl 5 rfl) ?_
        refine z_ci (va_runS (As := [.int (nI (np n n)), .int (nI n)]) (rest := []) ⟨hx, hb, hml, hown, hts⟩ (c_X6_sumOf l D (np n n) n (by omega) (by omega)) (va_cwS 2 hts gX6_solve_X6_sumOf rfl rfl rfl (by decide +kernel) ⟨Nat.le_of_ble_eq_true rfl, Nat.le_of_ble_eq_true rfl⟩) ⟨z_fb0, fun U hU hW => ⟨rfl, trivial⟩⟩ rfl rfl hl.1 rfl (lv_room (Nat.le_of_ble_eq_true rfl)) dX6_solve_35 ⟨Nat.le_of_ble_eq_true rfl, Nat.le_of_ble_eq_true rfl⟩) (fun r35 e35 => ?_)
        subst e35
        have hx35 : (np n n) ^^^ n < 256 := zx8 (by omega) (by omega)
        refine lv_aload_n hx hb dX6_solve_38 rfl (lv_at hl 0 rfl) ?_
        refine va_get (D := D) (ci := 8) (v := .ref ra) (C := RX6) (T := TX6) (N := 8) hx hb hts nX6_solve_inX6 hown hK hP 0 rfl rfl 1 (by decide) (hts (.fieldLink RX6 9 "GamefieldModel" "registers" "[I") (by decide +kernel)) (fun _ h9 => h9) rfl dX6_solve_39 ?_
        have hr_k : rf k < 256 := hrf _ (by omega)
        refine lv_iload_n hx hb dX6_solve_42 rfl (lv_at hl 2 rfl) ?_
        refine z_iald hx hb hK hP 1 0 rfl rfl (by omega) (by decide) dX6_solve_43 ?_
        refine z_cne (tgt := 51) hx hb (by omega) (by omega) dX6_solve_44 (by decide) (fun c_44 => ?_) (fun c_44 => ?_)
        · have e9 : slk (rf k) g n = slk (rf k) g (n + 1) := by rw [slk, if_neg (fun q => c_44 q.1)]
          refine lv_iconst (v := nI 0) hx hb dX6_solve_51 zki_0 ?_
          refine lv_istore (lv' := [(6, .int (nI 0)), (0, .ref mo), (1, .int (nI j)), (2, .int (nI k)), (3, .int (bI g)), (4, .int (oI (slk (rf k) g n))), (5, .int (nI n))]) hx hb dX6_solve_52 hl (by decide) rfl (fun ls hl => ?_)
          refine lv_iload hx hb dX6_solve_54 (lv_at hl 0 rfl) ?_
          refine z_feq (tgt := 74) hx hb (by omega) dX6_solve_56 (by decide) (fun c_56 => ?_) (fun c_56 => absurd c_56 (by decide))
          refine lv_iload hx hb dX6_solve_74 (lv_at hl 5 rfl) ?_
          refine lv_istore (lv' := [(4, .int (oI (slk (rf k) g n))), (6, .int (nI 0)), (0, .ref mo), (1, .int (nI j)), (2, .int (nI k)), (3, .int (bI g)), (5, .int (nI n))]) hx hb dX6_solve_76 hl (by decide) rfl (fun ls hl => ?_)
          refine lv_iinc (v := (nI (n + 1))) (lv' := [(5, .int (nI (n + 1))), (4, .int (oI (slk (rf k) g n))), (6, .int (nI 0)), (0, .ref mo), (1, .int (nI j)), (2, .int (nI k)), (3, .int (bI g))]) hx hb dX6_solve_78 hl (k := 6) rfl (z_inc n 1) (by decide) rfl (fun ls hl => ?_)
          refine lv_goto (tgt := 18) hx hb dX6_solve_81 (by decide) ?_
          have hl : lv_has ls 7 [(5, .int (nI (n + 1))), (4, .int (oI (slk (rf k) g (n + 1)))), (6, .int (nI 0)), (0, .ref mo), (1, .int (nI j)), (2, .int (nI k)), (3, .int (bI g))] := Eq.mp (congrArg (fun z9 => lv_has ls 7 [(5, .int (nI (n + 1))), (4, .int z9), (6, .int (nI 0)), (0, .ref mo), (1, .int (nI j)), (2, .int (nI k)), (3, .int (bI g))]) (congrArg oI (show slk (rf k) g n = slk (rf k) g (n + 1) from e9))) hl
          exact ih_18 (n + 1) (by omega) (by omega) H locs hP hD hS ls (lv_sub hl [3, 4, 5, 6, 1, 0] rfl)
        · refine lv_iconst (v := nI 1) hx hb dX6_solve_47 zki_1 ?_
          refine lv_goto (tgt := 52) hx hb dX6_solve_48 (by decide) ?_
          refine lv_istore (lv' := [(6, .int (nI 1)), (0, .ref mo), (1, .int (nI j)), (2, .int (nI k)), (3, .int (bI g)), (4, .int (oI (slk (rf k) g n))), (5, .int (nI n))]) hx hb dX6_solve_52 hl (by decide) rfl (fun ls hl => ?_)
          refine lv_iload hx hb dX6_solve_54 (lv_at hl 0 rfl) ?_
          refine z_feq (tgt := 74) hx hb (by omega) dX6_solve_56 (by decide) (fun c_56 => absurd c_56 (by decide)) (fun c_56 => ?_)
          refine lv_iload hx hb dX6_solve_59 (lv_at hl 5 rfl) ?_
          refine lv_iconst (v := (-1)) hx hb dX6_solve_61 zki_m1 ?_
          refine lv_icmp_eq (tgt := 69) hx hb dX6_solve_62 (by decide) (fun c_62 => ?_) (fun c_62 => ?_)
          · have hfree : (slk (rf k) g n).isNone = true ∨ g = true := Or.inl (by rw [(z_oI (fun n h => by have := slk_lt h; omega)).mp c_62]; rfl)
            have e9 : nI n = oI (slk (rf k) g (n + 1)) := by rw [slk, if_pos ⟨c_44, hfree⟩]; rfl
            refine lv_iload hx hb dX6_solve_69 (lv_at hl 6 rfl) ?_
            refine lv_goto (tgt := 76) hx hb dX6_solve_71 (by decide) ?_
            refine lv_istore (lv' := [(4, .int (nI n)), (6, .int (nI 1)), (0, .ref mo), (1, .int (nI j)), (2, .int (nI k)), (3, .int (bI g)), (5, .int (nI n))]) hx hb dX6_solve_76 hl (by decide) rfl (fun ls hl => ?_)
            refine lv_iinc (v := (nI (n + 1))) (lv' := [(5, .int (nI (n + 1))), (4, .int (nI n)), (6, .int (nI 1)), (0, .ref mo), (1, .int (nI j)), (2, .int (nI k)), (3, .int (bI g))]) hx hb dX6_solve_78 hl (k := 6) rfl (z_inc n 1) (by decide) rfl (fun ls hl => ?_)
            refine lv_goto (tgt := 18) hx hb dX6_solve_81 (by decide) ?_
            have hl : lv_has ls 7 [(5, .int (nI (n + 1))), (4, .int (oI (slk (rf k) g (n + 1)))), (6, .int (nI 1)), (0, .ref mo), (1, .int (nI j)), (2, .int (nI k)), (3, .int (bI g))] := Eq.mp (congrArg (fun z9 => lv_has ls 7 [(5, .int (nI (n + 1))), (4, .int z9), (6, .int (nI 1)), (0, .ref mo), (1, .int (nI j)), (2, .int (nI k)), (3, .int (bI g))]) ((show (nI n) = (oI (slk (rf k) g (n + 1))) from e9))) hl
            exact ih_18 (n + 1) (by omega) (by omega) H locs hP hD hS ls (lv_sub hl [3, 4, 5, 6, 1, 0] rfl)
          · refine lv_iload_n hx hb dX6_solve_65 rfl (lv_at hl 4 rfl) ?_
            refine z_beq (tgt := 74) hx hb dX6_solve_66 (by decide) (fun c_66 => ?_) (fun c_66 => ?_)
            · have e9 : slk (rf k) g n = slk (rf k) g (n + 1) := by
                rw [slk, if_neg]
                rintro ⟨-, q | q⟩
                · exact c_62 ((z_oI (fun n h => by have := slk_lt h; omega)).mpr (Option.isNone_iff_eq_none.mp q))
                · rw [c_66] at q; cases q
              refine lv_iload hx hb dX6_solve_74 (lv_at hl 5 rfl) ?_
              refine lv_istore (lv' := [(4, .int (oI (slk (rf k) g n))), (6, .int (nI 1)), (0, .ref mo), (1, .int (nI j)), (2, .int (nI k)), (3, .int (bI g)), (5, .int (nI n))]) hx hb dX6_solve_76 hl (by decide) rfl (fun ls hl => ?_)
              refine lv_iinc (v := (nI (n + 1))) (lv' := [(5, .int (nI (n + 1))), (4, .int (oI (slk (rf k) g n))), (6, .int (nI 1)), (0, .ref mo), (1, .int (nI j)), (2, .int (nI k)), (3, .int (bI g))]) hx hb dX6_solve_78 hl (k := 6) rfl (z_inc n 1) (by decide) rfl (fun ls hl => ?_)
              refine lv_goto (tgt := 18) hx hb dX6_solve_81 (by decide) ?_
              have hl : lv_has ls 7 [(5, .int (nI (n + 1))), (4, .int (oI (slk (rf k) g (n + 1)))), (6, .int (nI 1)), (0, .ref mo), (1, .int (nI j)), (2, .int (nI k)), (3, .int (bI g))] := Eq.mp (congrArg (fun z9 => lv_has ls 7 [(5, .int (nI (n + 1))), (4, .int z9), (6, .int (nI 1)), (0, .ref mo), (1, .int (nI j)), (2, .int (nI k)), (3, .int (bI g))]) (congrArg oI (show slk (rf k) g n = slk (rf k) g (n + 1) from e9))) hl
              exact ih_18 (n + 1) (by omega) (by omega) H locs hP hD hS ls (lv_sub hl [3, 4, 5, 6, 1, 0] rfl)
            · have hfree : (slk (rf k) g n).isNone = true ∨ g = true := Or.inr c_66
              have e9 : nI n = oI (slk (rf k) g (n + 1)) := by rw [slk, if_pos ⟨c_44, hfree⟩]; rfl
              refine lv_iload hx hb dX6_solve_69 (lv_at hl 6 rfl) ?_
              refine lv_goto (tgt := 76) hx hb dX6_solve_71 (by decide) ?_
              refine lv_istore (lv' := [(4, .int (nI n)), (6, .int (nI 1)), (0, .ref mo), (1, .int (nI j)), (2, .int (nI k)), (3, .int (bI g)), (5, .int (nI n))]) hx hb dX6_solve_76 hl (by decide) rfl (fun ls hl => ?_)
              refine lv_iinc (v := (nI (n + 1))) (lv' := [(5, .int (nI (n + 1))), (4, .int (nI n)), (6, .int (nI 1)), (0, .ref mo), (1, .int (nI j)), (2, .int (nI k)), (3, .int (bI g))]) hx hb dX6_solve_78 hl (k := 6) rfl (z_inc n 1) (by decide) rfl (fun ls hl => ?_)
              refine lv_goto (tgt := 18) hx hb dX6_solve_81 (by decide) ?_
              have hl : lv_has ls 7 [(5, .int (nI (n + 1))), (4, .int (oI (slk (rf k) g (n + 1)))), (6, .int (nI 1)), (0, .ref mo), (1, .int (nI j)), (2, .int (nI k)), (3, .int (bI g))] := Eq.mp (congrArg (fun z9 => lv_has ls 7 [(5, .int (nI (n + 1))), (4, .int z9), (6, .int (nI 1)), (0, .ref mo), (1, .int (nI j)), (2, .int (nI k)), (3, .int (bI g))]) ((show (nI n) = (oI (slk (rf k) g (n + 1))) from e9))) hl
              exact ih_18 (n + 1) (by omega) (by omega) H locs hP hD hS ls (lv_sub hl [3, 4, 5, 6, 1, 0] rfl)
  have hl : lv_has ls 7 [(5, .int (nI 0)), (4, .int (oI (slk (rf k) g 0))), (0, .ref mo), (1, .int (nI j)), (2, .int (nI k)), (3, .int (bI g))] := Eq.mp (congrArg (fun z9 => lv_has ls 7 [(5, .int (nI 0)), (4, .int z9), (0, .ref mo), (1, .int (nI j)), (2, .int (nI k)), (3, .int (bI g))]) ((show (-1) = (oI (slk (rf k) g 0)) from rfl))) hl
  exact cut_18 ((256 - 0) + 1) 0 (by omega) (Nat.lt_succ_self _) H locs (hP.sub [3, 0, 1, 2] rfl) (hD.sub [3, 0, 1, 2] (by decide) rfl) hS ls (lv_sub hl [2, 3, 4, 5, 1, 0] rfl)
abbrev rm_c_X6_solve_no : Room := { frames := 2, cells := 0, slots := 0, locals := 45 }
abbrev q_c_X6_solve_no (D : va_G) (sz : Nat) (mo : Nat) (ra : Nat) (ca : Nat) (ha : Nat) (ba : Nat) (wa : Nat) (kp : Nat) (hd : Nat) (kr : ClassId) (kc : ClassId) (kh : ClassId) (th : Nat) (rf : Nat → Nat) (cf : Nat → Nat) (hf : Nat → Nat) (x0 : Int32) (x1 : Int32) (g : Bool) : Array Value → State → Outcome → State → Prop := va_Qi (fun r (_ : Unit) => r = (nI 0)) (fun (_ : Unit) t => va_P D vwCl [(mo, .inr (8, [.int (nI 1), .ref ra, .ref ca, .ref ha, .int (nI kp), .ref ba, .int (nI hd), .ref wa])), (ra, .inl (kr, 8, .inl (aN rf))), (ca, .inl (kc, 8, .inl (aN cf))), (ha, .inl (kh, 8, .inl (aN hf)))] t.heap ∧ va_K D vwCl [(kr, .int), (kc, .int), (kh, .int)] t ∧ va_D (va_A [(mo, .inr (8, [.int (nI th), .ref ra, .ref ca, .ref ha, .int (nI kp), .ref ba, .int (nI hd), .ref wa])), (ra, .inl (kr, 8, .inl (aN rf))), (ca, .inl (kc, 8, .inl (aN cf))), (ha, .inl (kh, 8, .inl (aN hf)))] sz) [(mo, .inr (8, [.int (nI 1), .ref ra, .ref ca, .ref ha, .int (nI kp), .ref ba, .int (nI hd), .ref wa])), (ra, .inl (kr, 8, .inl (aN rf))), (ca, .inl (kc, 8, .inl (aN cf))), (ha, .inl (kh, 8, .inl (aN hf)))]) (va_A [(mo, .inr (8, [.int (nI th), .ref ra, .ref ca, .ref ha, .int (nI kp), .ref ba, .int (nI hd), .ref wa])), (ra, .inl (kr, 8, .inl (aN rf))), (ca, .inl (kc, 8, .inl (aN cf))), (ha, .inl (kh, 8, .inl (aN hf)))] sz)
set_option maxHeartbeats 4000000 in
set_option maxRecDepth 100000 in
theorem c_X6_solve_no (l : Launch) (D : va_G) (sz : Nat) (mo : Nat) (ra : Nat) (ca : Nat) (ha : Nat) (ba : Nat) (wa : Nat) (kp : Nat) (hd : Nat) (kr : ClassId) (kc : ClassId) (kh : ClassId) (th : Nat) (rf : Nat → Nat) (cf : Nat → Nat) (hf : Nat → Nat) (x0 : Int32) (x1 : Int32) (g : Bool) (hrf : ∀ k, k < 8 → rf k < 256) (hkp : kp ≤ 8) (hno : (inN 8 x0 && inN 8 x1) = false) : Met l yX6_solve wsX6_solve rm_c_X6_solve_no (va_Pc [.ref mo, .int x0, .int x1, .int (bI g)] (fun U => U.heap.size = sz ∧ va_P D vwCl [(mo, .inr (8, [.int (nI th), .ref ra, .ref ca, .ref ha, .int (nI kp), .ref ba, .int (nI hd), .ref wa])), (ra, .inl (kr, 8, .inl (aN rf))), (ca, .inl (kc, 8, .inl (aN cf))), (ha, .inl (kh, 8, .inl (aN hf)))] U.heap ∧ va_K D vwCl [(kr, .int), (kc, .int), (kh, .int)] U ∧ va_D (fun _ => True) [(mo, .inr (8, [.int (nI th), .ref ra, .ref ca, .ref ha, .int (nI kp), .ref ba, .int (nI hd), .ref wa])), (ra, .inl (kr, 8, .inl (aN rf))), (ca, .inl (kc, 8, .inl (aN cf))), (ha, .inl (kh, 8, .inl (aN hf)))])) (q_c_X6_solve_no D sz mo ra ca ha ba wa kp hd kr kc kh th rf cf hf x0 x1 g) 0 0 (va_A [(mo, .inr (8, [.int (nI th), .ref ra, .ref ca, .ref ha, .int (nI kp), .ref ba, .int (nI hd), .ref wa])), (ra, .inl (kr, 8, .inl (aN rf))), (ca, .inl (kc, 8, .inl (aN cf))), (ha, .inl (kh, 8, .inl (aN hf)))] sz) := by
  refine Met.ofW (cc := cX6_solve) (maxL := 7) (ret := (some .int)) (by decide) rfl ?_
  intro p e s m args below meth c s₁ B hml hv
  obtain ⟨hargs, hsz, hP, hK, hD0⟩ := hv
  have hx := B.exec
  have hb := B.bytes
  have hr := B.returns
  have hts := atoms_spec (ws := wsX6_solve) B.pre
  have hown : s.vm.findClass RX6 = some m.cls := findClass_of_methodNamed B.named
  have hlocks := B.notSynchronized
  subst hsz
  have hD := hD0.self (sz := s.heap.size)
  generalize hAe : va_A [(mo, .inr (8, [.int (nI th), .ref ra, .ref ca, .ref ha, .int (nI kp), .ref ba, .int (nI hd), .ref wa])), (ra, .inl (kr, 8, .inl (aN rf))), (ca, .inl (kc, 8, .inl (aN cf))), (ha, .inl (kh, 8, .inl (aN hf)))] s.heap.size = A at hD ⊢
  have hA : ∀ q : Nat, s.heap.size ≤ q → A q := fun q h => by rw [← hAe]; exact Or.inr h
  have hS : va_S A s.heap s.heap [] := va_S.rf
  have hl := lv_entry ([.ref mo, .int x0, .int x1, .int (bI g)]) (n := 7) (Nat.le_of_ble_eq_true rfl)
  refine W.eq (g2 := F0 m 0 (lg_sl ([.ref mo, .int x0, .int x1, .int (bI g)]) ++ List.replicate (7 - (lg_sl ([.ref mo, .int x0, .int x1, .int (bI g)])).length) Slot.unset).toArray []) (by rw [hargs]; exact lg_entry_eq _ _ _) ?_
  generalize (lg_sl ([.ref mo, .int x0, .int x1, .int (bI g)]) ++ List.replicate (7 - (lg_sl ([.ref mo, .int x0, .int x1, .int (bI g)])).length) Slot.unset).toArray = ls at hl ⊢
  have hl : lv_has ls 7 [(0, .ref mo), (1, .int x0), (2, .int x1), (3, .int (bI g))] := hl
  refine lv_aload_n hx hb dX6_solve_0 rfl (lv_at hl 0 rfl) ?_
  refine lv_iload_n hx hb dX6_solve_1 rfl (lv_at hl 1 rfl) ?_
  refine lv_iload_n hx hb dX6_solve_2 rfl (lv_at hl 2 rfl) ?_
  refine lv_iconst (v := nI 0) hx hb dX6_solve_3 zki_0 ?_
  have hPc := hP.sub (ws' := [(mo, .inr (8, [.int (nI th), .ref ra, .ref ca, .ref ha, .int (nI kp), .ref ba, .int (nI hd), .ref wa]))]) [0] rfl
  have hDc := hD.sub (ws' := [(mo, .inr (8, [.int (nI th), .ref ra, .ref ca, .ref ha, .int (nI kp), .ref ba, .int (nI hd), .ref wa]))]) [0] (by decide) rfl
  have hKc := hK.sub (tys' := []) [] rfl
  have hFc := va_free (wc := [(mo, .inr (8, [.int (nI th), .ref ra, .ref ca, .ref ha, .int (nI kp), .ref ba, .int (nI hd), .ref wa]))]) hD hS hA [0] rfl
  refine va_calli (va_runV (As := [.int x0, .int x1, .int (nI 0)]) (rest := []) ⟨hx, hb, hml, hown, hts⟩ (c_X6_areNone_no l D s.heap.size mo ra ca ha ba wa kp hd th x0 x1 (nI 0) (by rw [ok3_2]; exact hno)) (cwV 3 hts gX6_solve_X6_areNone rfl rfl rfl (by decide +kernel) ⟨Nat.le_of_ble_eq_true rfl, Nat.le_of_ble_eq_true rfl⟩) ⟨(z_fb2), va_recv hK hP (ci := 8) (q0 := 0) rfl rfl, fun U hU hW => ⟨rfl, by rw [hU], by rw [hU]; exact hPc, va_K.moved hW.alike hKc, hDc.weaken (fun _ _ _ _ => trivial)⟩⟩ rfl rfl hl.1 rfl (lv_room (Nat.le_of_ble_eq_true rfl)) dX6_solve_4 ⟨Nat.le_of_ble_eq_true rfl, Nat.le_of_ble_eq_true rfl⟩) hS (fun q _ h => hFc q h) hFc (fun r4 u4 t H locs ht hvm e4 hB hz1 hk1 hS => ?_)
  obtain ⟨hP1, hK1, hD1⟩ := hB
  rw [ht] at hP1
  obtain ⟨hP, hD⟩ := va_join (wr := [(ra, .inl (kr, 8, .inl (aN rf))), (ca, .inl (kc, 8, .inl (aN cf))), (ha, .inl (kh, 8, .inl (aN hf)))]) (w1 := [(mo, .inr (8, [.int (nI 1), .ref ra, .ref ca, .ref ha, .int (nI kp), .ref ba, .int (nI hd), .ref wa]))]) hP hD [0] [1, 2, 3] rfl rfl (by decide) (by decide) hk1 hFc hP1 hD1
  have hP : va_P D vwCl [(ra, .inl (kr, 8, .inl (aN rf))), (ca, .inl (kc, 8, .inl (aN cf))), (ha, .inl (kh, 8, .inl (aN hf))), (mo, .inr (8, [.int (nI 1), .ref ra, .ref ca, .ref ha, .int (nI kp), .ref ba, .int (nI hd), .ref wa]))] H := hP
  have hD : va_D A [(ra, .inl (kr, 8, .inl (aN rf))), (ca, .inl (kc, 8, .inl (aN cf))), (ha, .inl (kh, 8, .inl (aN hf))), (mo, .inr (8, [.int (nI 1), .ref ra, .ref ca, .ref ha, .int (nI kp), .ref ba, .int (nI hd), .ref wa]))] := hD
  refine W.widen (k := 0) (n := 0) (Nat.le_of_ble_eq_true rfl) (Nat.le_of_ble_eq_true rfl) ?_
  subst e4
  refine z_beq (tgt := 12) hx hb dX6_solve_7 (by decide) (fun c_7 => absurd c_7 (by decide)) (fun c_7 => ?_)
  refine lv_iconst (v := nI 0) hx hb dX6_solve_10 zki_0 ?_
  have hP9 := hP.sub (ws' := [(mo, .inr (8, [.int (nI 1), .ref ra, .ref ca, .ref ha, .int (nI kp), .ref ba, .int (nI hd), .ref wa])), (ra, .inl (kr, 8, .inl (aN rf))), (ca, .inl (kc, 8, .inl (aN cf))), (ha, .inl (kh, 8, .inl (aN hf)))]) [3, 0, 1, 2] rfl
  have hD9 := hD.sub (ws' := [(mo, .inr (8, [.int (nI 1), .ref ra, .ref ca, .ref ha, .int (nI kp), .ref ba, .int (nI hd), .ref wa])), (ra, .inl (kr, 8, .inl (aN rf))), (ca, .inl (kc, 8, .inl (aN cf))), (ha, .inl (kh, 8, .inl (aN hf)))]) [3, 0, 1, 2] (by decide) rfl
  have hK9 := hK.sub (tys' := [(kr, .int), (kc, .int), (kh, .int)]) [0, 1, 2] rfl
  subst hAe
  refine W.widen (k := 0) (n := 0) (Nat.le_of_ble_eq_true rfl) (Nat.le_of_ble_eq_true rfl) ?_
  exact W.iret hx hb hr (fun t ht hW => ⟨⟨_, (), rfl, (rfl), by rw [ht]; exact hP9, va_K.moved hW.alike hK9, hD9⟩, hS.F ht⟩) hS.2.2 dX6_solve_11
