/-! The reference's registers. -/
def tB (k : Nat) (b : Bool) : Nat := if b = true then k else 0
theorem tB_t {k : Nat} {b : Bool} (h : 0 < tB k b) : b = true := by
  cases b with
  | true => rfl
  | false => exact absurd h (by simp [tB])
theorem tB_f {k : Nat} {b : Bool} (hk : 0 < k) (h : tB k b ≤ 0) : b = false := by
  cases b with
  | false => rfl
  | true => rw [tB, if_pos rfl] at h; omega
theorem tB_le {k : Nat} {b : Bool} : tB k b ≤ k := by unfold tB; split <;> omega
def shd (f : Nat → Nat) (n : Nat) : Nat → Nat := fun k => if k + 1 < n then f (k + 1) else f k
theorem shd_1 (f : Nat → Nat) : shd f 1 = f := by
  funext k
  unfold shd
  rw [if_neg (by omega)]
theorem shd_s (f : Nat → Nat) (n : Nat) (h : 1 ≤ n) : va_up (shd f n) (n - 1) (shd f n n) = shd f (n + 1) := by
  funext k
  by_cases hk : k = n - 1
  · rw [hk, z_up_eq, shd, if_neg (by omega), shd, if_pos (by omega), show n - 1 + 1 = n by omega]
  · rw [z_up_ne (by omega), shd, shd]
    by_cases h2 : k + 1 < n
    · rw [if_pos h2, if_pos (by omega)]
    · rw [if_neg h2, if_neg (by omega)]
/-- the ring with one entry more -/
def rng (f : Nat → Nat) (kp j : Nat) : Nat → Nat := va_up (if kp = 8 then shd f 8 else f) (min kp 7) j
theorem ok3_1 (x : Int32) : ok3 x (nI 0) (nI 0) = inN 8 x := by
  rw [ok3, inN_n (show 0 < 8 by decide) (by decide), Bool.and_true, Bool.and_true]
theorem ok3_2 (x y : Int32) : ok3 x y (nI 0) = (inN 8 x && inN 8 y) := by
  rw [ok3, inN_n (show 0 < 8 by decide) (by decide), Bool.and_true]
theorem nX6_fails_inX6 : ∀ w ∈ u_ws RX6 TX6 8, w ∈ wsX6_fails := by decide +kernel
theorem nX6_areNone_inX6 : ∀ w ∈ u_ws RX6 TX6 8, w ∈ wsX6_areNone := by decide +kernel
theorem nX6_becomes_inX6 : ∀ w ∈ u_ws RX6 TX6 8, w ∈ wsX6_becomes := by decide +kernel
theorem nX6_at_inX6 : ∀ w ∈ u_ws RX6 TX6 8, w ∈ wsX6_at := by decide +kernel
theorem nX6_trace_inX6 : ∀ w ∈ u_ws RX6 TX6 8, w ∈ wsX6_trace := by decide +kernel
theorem nX6_sum_inX6 : ∀ w ∈ u_ws RX6 TX6 8, w ∈ wsX6_sum := by decide +kernel
theorem nX6_product_inX6 : ∀ w ∈ u_ws RX6 TX6 8, w ∈ wsX6_product := by decide +kernel
theorem nX6_root_inX6 : ∀ w ∈ u_ws RX6 TX6 8, w ∈ wsX6_root := by decide +kernel
abbrev rm_c_X6_fails_true : Room := { frames := 0, cells := 0, slots := 0, locals := 0 }
abbrev q_c_X6_fails_true (D : va_G) (sz : Nat) (mo : Nat) (ra : Nat) (ca : Nat) (ha : Nat) (ba : Nat) (wa : Nat) (kp : Nat) (hd : Nat) (k : Nat) : Array Value → State → Outcome → State → Prop := va_Qi (fun r (_ : Unit) => r = (bI true)) (fun (_ : Unit) t => va_P D vwCl [(mo, .inr (8, [.int (nI k), .ref ra, .ref ca, .ref ha, .int (nI kp), .ref ba, .int (nI hd), .ref wa]))] t.heap ∧ va_K D vwCl [] t ∧ va_D (va_A [(mo, .inr (8, [.int (nI 0), .ref ra, .ref ca, .ref ha, .int (nI kp), .ref ba, .int (nI hd), .ref wa]))] sz) [(mo, .inr (8, [.int (nI k), .ref ra, .ref ca, .ref ha, .int (nI kp), .ref ba, .int (nI hd), .ref wa]))]) (va_A [(mo, .inr (8, [.int (nI 0), .ref ra, .ref ca, .ref ha, .int (nI kp), .ref ba, .int (nI hd), .ref wa]))] sz)
set_option maxHeartbeats 4000000 in
set_option maxRecDepth 100000 in
theorem c_X6_fails_true (l : Launch) (D : va_G) (sz : Nat) (mo : Nat) (ra : Nat) (ca : Nat) (ha : Nat) (ba : Nat) (wa : Nat) (kp : Nat) (hd : Nat) (k : Nat) (hk0 : 0 < k) (hk : k < 2147483648) : Met l yX6_fails wsX6_fails rm_c_X6_fails_true (va_Pc [.ref mo, .int (nI 1), .int (nI k)] (fun U => U.heap.size = sz ∧ va_P D vwCl [(mo, .inr (8, [.int (nI 0), .ref ra, .ref ca, .ref ha, .int (nI kp), .ref ba, .int (nI hd), .ref wa]))] U.heap ∧ va_K D vwCl [] U ∧ va_D (fun _ => True) [(mo, .inr (8, [.int (nI 0), .ref ra, .ref ca, .ref ha, .int (nI kp), .ref ba, .int (nI hd), .ref wa]))])) (q_c_X6_fails_true D sz mo ra ca ha ba wa kp hd k) 0 0 (va_A [(mo, .inr (8, [.int (nI 0), .ref ra, .ref ca, .ref ha, .int (nI kp), .ref ba, .int (nI hd), .ref wa]))] sz) := by
  refine Met.ofW (cc := cX6_fails) (maxL := 3) (ret := (some .boolean)) (by decide) rfl ?_
  intro p e s m args below meth c s₁ B hml hv
  obtain ⟨hargs, hsz, hP, hK, hD0⟩ := hv
  have hx := B.exec
  have hb := B.bytes
  have hr := B.returns
  have hts := atoms_spec (ws := wsX6_fails) B.pre
  have hown : s.vm.findClass RX6 = some m.cls := findClass_of_methodNamed B.named
  have hlocks := B.notSynchronized
  subst hsz
  have hD := hD0.self (sz := s.heap.size)
  generalize hAe : va_A [(mo, .inr (8, [.int (nI 0), .ref ra, .ref ca, .ref ha, .int (nI kp), .ref ba, .int (nI hd), .ref wa]))] s.heap.size = A at hD ⊢
  have hA : ∀ q : Nat, s.heap.size ≤ q → A q := fun q h => by rw [← hAe]; exact Or.inr h
  have hS : va_S A s.heap s.heap [] := va_S.rf
  have hl := lv_entry ([.ref mo, .int (nI 1), .int (nI k)]) (n := 3) (Nat.le_of_ble_eq_true rfl)
  refine W.eq (g2 := F0 m 0 (lg_sl ([.ref mo, .int (nI 1), .int (nI k)]) ++ List.replicate (3 - (lg_sl ([.ref mo, .int (nI 1), .int (nI k)])).length) Slot.unset).toArray []) (by rw [hargs]; exact lg_entry_eq _ _ _) ?_
  generalize (lg_sl ([.ref mo, .int (nI 1), .int (nI k)]) ++ List.replicate (3 - (lg_sl ([.ref mo, .int (nI 1), .int (nI k)])).length) Slot.unset).toArray = ls at hl ⊢
  have hl : lv_has ls 3 [(0, .ref mo), (1, .int (nI 1)), (2, .int (nI k))] := hl
  refine lv_aload_n hx hb dX6_fails_0 rfl (lv_at hl 0 rfl) ?_
  refine lv_aload_n hx hb dX6_fails_1 rfl (lv_at hl 0 rfl) ?_
  refine va_get (D := D) (ci := 8) (v := .int (nI 0)) (C := RX6) (T := TX6) (N := 8) hx hb hts nX6_fails_inX6 hown hK hP 0 rfl rfl 0 (by decide) (hts (.fieldLink RX6 26 "GamefieldModel" "thrown" "I") (by decide +kernel)) (fun _ h9 => h9) rfl dX6_fails_2 ?_
  refine z_fne (tgt := 16) hx hb (by omega) dX6_fails_5 (by decide) (fun c_5 => absurd c_5 (by decide)) (fun c_5 => ?_)
  refine lv_iload_n hx hb dX6_fails_8 rfl (lv_at hl 1 rfl) ?_
  refine z_feq (tgt := 16) hx hb (by omega) dX6_fails_9 (by decide) (fun c_9 => absurd c_9 (by decide)) (fun c_9 => ?_)
  refine lv_iload_n hx hb dX6_fails_12 rfl (lv_at hl 2 rfl) ?_
  refine lv_goto (tgt := 20) hx hb dX6_fails_13 (by decide) ?_
  refine va_put (D := D) (ci := 8) (v := .int (nI k)) (ty := .int) (C := RX6) (T := TX6) (N := 8) hx hb hts nX6_fails_inX6 tyX6 tyX6_ok nmX6 hown hK hP hD hS 0 rfl rfl 0 (by decide) (hts (.fieldLink RX6 26 "GamefieldModel" "thrown" "I") (by decide +kernel)) (fun _ h9 => h9) rfl (by decide +kernel) rfl rfl (Nat.le_of_ble_eq_true rfl) dX6_fails_20 (fun H locs hP hD hS => ?_)
  have hP : va_P D vwCl [(mo, .inr (8, [.int (nI k), .ref ra, .ref ca, .ref ha, .int (nI kp), .ref ba, .int (nI hd), .ref wa]))] H := hP
  have hD : va_D A [(mo, .inr (8, [.int (nI k), .ref ra, .ref ca, .ref ha, .int (nI kp), .ref ba, .int (nI hd), .ref wa]))] := hD
  refine lv_aload_n hx hb dX6_fails_23 rfl (lv_at hl 0 rfl) ?_
  refine va_get (D := D) (ci := 8) (v := .int (nI k)) (C := RX6) (T := TX6) (N := 8) hx hb hts nX6_fails_inX6 hown hK hP 0 rfl rfl 0 (by decide) (hts (.fieldLink RX6 26 "GamefieldModel" "thrown" "I") (by decide +kernel)) (fun _ h9 => h9) rfl dX6_fails_24 ?_
  refine z_fle (tgt := 34) hx hb (by omega) dX6_fails_27 (by decide) (fun c_27 => absurd c_27 (by omega)) (fun c_27 => ?_)
  refine lv_iconst (v := nI 1) hx hb dX6_fails_30 zki_1 ?_
  refine lv_goto (tgt := 35) hx hb dX6_fails_31 (by decide) ?_
  have hP9 := hP.sub (ws' := [(mo, .inr (8, [.int (nI k), .ref ra, .ref ca, .ref ha, .int (nI kp), .ref ba, .int (nI hd), .ref wa]))]) [0] rfl
  have hD9 := hD.sub (ws' := [(mo, .inr (8, [.int (nI k), .ref ra, .ref ca, .ref ha, .int (nI kp), .ref ba, .int (nI hd), .ref wa]))]) [0] (by decide) rfl
  have hK9 := hK.sub (tys' := []) [] rfl
  subst hAe
  refine W.widen (k := 0) (n := 0) (Nat.le_of_ble_eq_true rfl) (Nat.le_of_ble_eq_true rfl) ?_
  refine zt (show nI 1 = bI true from rfl) ?_
  exact W.zret (ty := .boolean) hx hb hr (z_narB _) (fun t ht hW => ⟨⟨_, (), rfl, (rfl), by rw [ht]; exact hP9, va_K.moved hW.alike hK9, hD9⟩, hS.F ht⟩) hS.2.2 dX6_fails_35
abbrev rm_c_X6_fails_false : Room := { frames := 0, cells := 0, slots := 0, locals := 0 }
abbrev q_c_X6_fails_false (D : va_G) (sz : Nat) (mo : Nat) (ra : Nat) (ca : Nat) (ha : Nat) (ba : Nat) (wa : Nat) (kp : Nat) (hd : Nat) (k : Nat) : Array Value → State → Outcome → State → Prop := va_Qi (fun r (_ : Unit) => r = (bI false)) (fun (_ : Unit) t => va_P D vwCl [(mo, .inr (8, [.int (nI 0), .ref ra, .ref ca, .ref ha, .int (nI kp), .ref ba, .int (nI hd), .ref wa]))] t.heap ∧ va_K D vwCl [] t ∧ va_D (va_A [(mo, .inr (8, [.int (nI 0), .ref ra, .ref ca, .ref ha, .int (nI kp), .ref ba, .int (nI hd), .ref wa]))] sz) [(mo, .inr (8, [.int (nI 0), .ref ra, .ref ca, .ref ha, .int (nI kp), .ref ba, .int (nI hd), .ref wa]))]) (va_A [(mo, .inr (8, [.int (nI 0), .ref ra, .ref ca, .ref ha, .int (nI kp), .ref ba, .int (nI hd), .ref wa]))] sz)
set_option maxHeartbeats 4000000 in
set_option maxRecDepth 100000 in
theorem c_X6_fails_false (l : Launch) (D : va_G) (sz : Nat) (mo : Nat) (ra : Nat) (ca : Nat) (ha : Nat) (ba : Nat) (wa : Nat) (kp : Nat) (hd : Nat) (k : Nat) (hk0 : 0 < k) (hk : k < 2147483648) : Met l yX6_fails wsX6_fails rm_c_X6_fails_false (va_Pc [.ref mo, .int (nI 0), .int (nI k)] (fun U => U.heap.size = sz ∧ va_P D vwCl [(mo, .inr (8, [.int (nI 0), .ref ra, .ref ca, .ref ha, .int (nI kp), .ref ba, .int (nI hd), .ref wa]))] U.heap ∧ va_K D vwCl [] U ∧ va_D (fun _ => True) [(mo, .inr (8, [.int (nI 0), .ref ra, .ref ca, .ref ha, .int (nI kp), .ref ba, .int (nI hd), .ref wa]))])) (q_c_X6_fails_false D sz mo ra ca ha ba wa kp hd k) 0 0 (va_A [(mo, .inr (8, [.int (nI 0), .ref ra, .ref ca, .ref ha, .int (nI kp), .ref ba, .int (nI hd), .ref wa]))] sz) := by
  refine Met.ofW (cc := cX6_fails) (maxL := 3) (ret := (some .boolean)) (by decide) rfl ?_
  intro p e s m args below meth c s₁ B hml hv
  obtain ⟨hargs, hsz, hP, hK, hD0⟩ := hv
  have hx := B.exec
  have hb := B.bytes
  have hr := B.returns
  have hts := atoms_spec (ws := wsX6_fails) B.pre
  have hown : s.vm.findClass RX6 = some m.cls := findClass_of_methodNamed B.named
  have hlocks := B.notSynchronized
  subst hsz
  have hD := hD0.self (sz := s.heap.size)
  generalize hAe : va_A [(mo, .inr (8, [.int (nI 0), .ref ra, .ref ca, .ref ha, .int (nI kp), .ref ba, .int (nI hd), .ref wa]))] s.heap.size = A at hD ⊢
  have hA : ∀ q : Nat, s.heap.size ≤ q → A q := fun q h => by rw [← hAe]; exact Or.inr h
  have hS : va_S A s.heap s.heap [] := va_S.rf
  have hl := lv_entry ([.ref mo, .int (nI 0), .int (nI k)]) (n := 3) (Nat.le_of_ble_eq_true rfl)
  refine W.eq (g2 := F0 m 0 (lg_sl ([.ref mo, .int (nI 0), .int (nI k)]) ++ List.replicate (3 - (lg_sl ([.ref mo, .int (nI 0), .int (nI k)])).length) Slot.unset).toArray []) (by rw [hargs]; exact lg_entry_eq _ _ _) ?_
  generalize (lg_sl ([.ref mo, .int (nI 0), .int (nI k)]) ++ List.replicate (3 - (lg_sl ([.ref mo, .int (nI 0), .int (nI k)])).length) Slot.unset).toArray = ls at hl ⊢
  have hl : lv_has ls 3 [(0, .ref mo), (1, .int (nI 0)), (2, .int (nI k))] := hl
  refine lv_aload_n hx hb dX6_fails_0 rfl (lv_at hl 0 rfl) ?_
  refine lv_aload_n hx hb dX6_fails_1 rfl (lv_at hl 0 rfl) ?_
  refine va_get (D := D) (ci := 8) (v := .int (nI 0)) (C := RX6) (T := TX6) (N := 8) hx hb hts nX6_fails_inX6 hown hK hP 0 rfl rfl 0 (by decide) (hts (.fieldLink RX6 26 "GamefieldModel" "thrown" "I") (by decide +kernel)) (fun _ h9 => h9) rfl dX6_fails_2 ?_
  refine z_fne (tgt := 16) hx hb (by omega) dX6_fails_5 (by decide) (fun c_5 => absurd c_5 (by decide)) (fun c_5 => ?_)
  refine lv_iload_n hx hb dX6_fails_8 rfl (lv_at hl 1 rfl) ?_
  refine z_feq (tgt := 16) hx hb (by omega) dX6_fails_9 (by decide) (fun c_9 => ?_) (fun c_9 => absurd c_9 (by decide))
  refine lv_aload_n hx hb dX6_fails_16 rfl (lv_at hl 0 rfl) ?_
  refine va_get (D := D) (ci := 8) (v := .int (nI 0)) (C := RX6) (T := TX6) (N := 8) hx hb hts nX6_fails_inX6 hown hK hP 0 rfl rfl 0 (by decide) (hts (.fieldLink RX6 26 "GamefieldModel" "thrown" "I") (by decide +kernel)) (fun _ h9 => h9) rfl dX6_fails_17 ?_
  refine va_put (D := D) (ci := 8) (v := .int (nI 0)) (ty := .int) (C := RX6) (T := TX6) (N := 8) hx hb hts nX6_fails_inX6 tyX6 tyX6_ok nmX6 hown hK hP hD hS 0 rfl rfl 0 (by decide) (hts (.fieldLink RX6 26 "GamefieldModel" "thrown" "I") (by decide +kernel)) (fun _ h9 => h9) rfl (by decide +kernel) rfl rfl (Nat.le_of_ble_eq_true rfl) dX6_fails_20 (fun H locs hP hD hS => ?_)
  have hP : va_P D vwCl [(mo, .inr (8, [.int (nI 0), .ref ra, .ref ca, .ref ha, .int (nI kp), .ref ba, .int (nI hd), .ref wa]))] H := hP
  have hD : va_D A [(mo, .inr (8, [.int (nI 0), .ref ra, .ref ca, .ref ha, .int (nI kp), .ref ba, .int (nI hd), .ref wa]))] := hD
  refine lv_aload_n hx hb dX6_fails_23 rfl (lv_at hl 0 rfl) ?_
  refine va_get (D := D) (ci := 8) (v := .int (nI 0)) (C := RX6) (T := TX6) (N := 8) hx hb hts nX6_fails_inX6 hown hK hP 0 rfl rfl 0 (by decide) (hts (.fieldLink RX6 26 "GamefieldModel" "thrown" "I") (by decide +kernel)) (fun _ h9 => h9) rfl dX6_fails_24 ?_
  refine z_fle (tgt := 34) hx hb (by omega) dX6_fails_27 (by decide) (fun c_27 => ?_) (fun c_27 => absurd c_27 (by omega))
  refine lv_iconst (v := nI 0) hx hb dX6_fails_34 zki_0 ?_
  have hP9 := hP.sub (ws' := [(mo, .inr (8, [.int (nI 0), .ref ra, .ref ca, .ref ha, .int (nI kp), .ref ba, .int (nI hd), .ref wa]))]) [0] rfl
  have hD9 := hD.sub (ws' := [(mo, .inr (8, [.int (nI 0), .ref ra, .ref ca, .ref ha, .int (nI kp), .ref ba, .int (nI hd), .ref wa]))]) [0] (by decide) rfl
  have hK9 := hK.sub (tys' := []) [] rfl
  subst hAe
  refine W.widen (k := 0) (n := 0) (Nat.le_of_ble_eq_true rfl) (Nat.le_of_ble_eq_true rfl) ?_
  refine zt (show nI 0 = bI false from rfl) ?_
  exact W.zret (ty := .boolean) hx hb hr (z_narB _) (fun t ht hW => ⟨⟨_, (), rfl, (rfl), by rw [ht]; exact hP9, va_K.moved hW.alike hK9, hD9⟩, hS.F ht⟩) hS.2.2 dX6_fails_35
abbrev rm_c_X6_isRegister_ok : Room := { frames := 0, cells := 0, slots := 0, locals := 0 }
abbrev q_c_X6_isRegister_ok (D : va_G) (j : Nat) : Array Value → State → Outcome → State → Prop := vp_Si (fun r => r = (bI true))
set_option maxHeartbeats 4000000 in
set_option maxRecDepth 100000 in
theorem c_X6_isRegister_ok (l : Launch) (D : va_G) (j : Nat) (hj : j < 8) : Met l yX6_isRegister wsX6_isRegister rm_c_X6_isRegister_ok (va_Pc [.int (nI j)] (fun _ => True)) (q_c_X6_isRegister_ok D j) 0 0 (fun _ => False) := by
  refine Met.ofW (cc := cX6_isRegister) (maxL := 1) (ret := (some .boolean)) (by decide) rfl ?_
  intro p e s m args below meth c s₁ B hml hv
  obtain ⟨hargs, -⟩ := hv
  have hx := B.exec
  have hb := B.bytes
  have hr := B.returns
  have hts := atoms_spec (ws := wsX6_isRegister) B.pre
  have hown : s.vm.findClass RX6 = some m.cls := findClass_of_methodNamed B.named
  have hlocks := B.notSynchronized
  have hl := lv_entry ([.int (nI j)]) (n := 1) (Nat.le_of_ble_eq_true rfl)
  refine W.eq (g2 := F0 m 0 (lg_sl ([.int (nI j)]) ++ List.replicate (1 - (lg_sl ([.int (nI j)])).length) Slot.unset).toArray []) (by rw [hargs]; exact lg_entry_eq _ _ _) ?_
  generalize (lg_sl ([.int (nI j)]) ++ List.replicate (1 - (lg_sl ([.int (nI j)])).length) Slot.unset).toArray = ls at hl ⊢
  have hl : lv_has ls 1 [(0, .int (nI j))] := hl
  refine lv_iload_n hx hb dX6_isRegister_0 rfl (lv_at hl 0 rfl) ?_
  refine z_flt (tgt := 14) hx hb (by omega) dX6_isRegister_1 (by decide) ?_
  refine lv_iload_n hx hb dX6_isRegister_4 rfl (lv_at hl 0 rfl) ?_
  refine lv_bipush (v := nI 8) hx hb dX6_isRegister_5 zkb_8 ?_
  refine z_cge (tgt := 14) hx hb (by omega) (by omega) dX6_isRegister_7 (by decide) (fun c_7 => absurd c_7 (by omega)) (fun c_7 => ?_)
  refine lv_iconst (v := nI 1) hx hb dX6_isRegister_10 zki_1 ?_
  refine lv_goto (tgt := 15) hx hb dX6_isRegister_11 (by decide) ?_
  refine zt (show nI 1 = bI true from rfl) ?_
  exact W.zret (ty := .boolean) hx hb hr (z_narB _) (fun t ht _ => ⟨_, rfl, (rfl), ht⟩) (fun _ h => nomatch h) dX6_isRegister_15
abbrev rm_c_X6_isNumber_ok : Room := { frames := 0, cells := 0, slots := 0, locals := 0 }
abbrev q_c_X6_isNumber_ok (D : va_G) (j : Nat) (n : Nat) : Array Value → State → Outcome → State → Prop := vp_Si (fun r => r = (bI true))
set_option maxHeartbeats 4000000 in
set_option maxRecDepth 100000 in
theorem c_X6_isNumber_ok (l : Launch) (D : va_G) (j : Nat) (n : Nat) (hj : j < n) (hn : n ≤ 2147483647) : Met l yX6_isNumber wsX6_isNumber rm_c_X6_isNumber_ok (va_Pc [.int (nI j), .int (nI n)] (fun _ => True)) (q_c_X6_isNumber_ok D j n) 0 0 (fun _ => False) := by
  refine Met.ofW (cc := cX6_isNumber) (maxL := 2) (ret := (some .boolean)) (by decide) rfl ?_
  intro p e s m args below meth c s₁ B hml hv
  obtain ⟨hargs, -⟩ := hv
  have hx := B.exec
  have hb := B.bytes
  have hr := B.returns
  have hts := atoms_spec (ws := wsX6_isNumber) B.pre
  have hown : s.vm.findClass RX6 = some m.cls := findClass_of_methodNamed B.named
  have hlocks := B.notSynchronized
  have hl := lv_entry ([.int (nI j), .int (nI n)]) (n := 2) (Nat.le_of_ble_eq_true rfl)
  refine W.eq (g2 := F0 m 0 (lg_sl ([.int (nI j), .int (nI n)]) ++ List.replicate (2 - (lg_sl ([.int (nI j), .int (nI n)])).length) Slot.unset).toArray []) (by rw [hargs]; exact lg_entry_eq _ _ _) ?_
  generalize (lg_sl ([.int (nI j), .int (nI n)]) ++ List.replicate (2 - (lg_sl ([.int (nI j), .int (nI n)])).length) Slot.unset).toArray = ls at hl ⊢
  have hl : lv_has ls 2 [(0, .int (nI j)), (1, .int (nI n))] := hl
  refine lv_iload_n hx hb dX6_isNumber_0 rfl (lv_at hl 0 rfl) ?_
  refine z_flt (tgt := 13) hx hb (by omega) dX6_isNumber_1 (by decide) ?_
  refine lv_iload_n hx hb dX6_isNumber_4 rfl (lv_at hl 0 rfl) ?_
  refine lv_iload_n hx hb dX6_isNumber_5 rfl (lv_at hl 1 rfl) ?_
  refine z_cge (tgt := 13) hx hb (by omega) (by omega) dX6_isNumber_6 (by decide) (fun c_6 => absurd c_6 (by omega)) (fun c_6 => ?_)
  refine lv_iconst (v := nI 1) hx hb dX6_isNumber_9 zki_1 ?_
  refine lv_goto (tgt := 14) hx hb dX6_isNumber_10 (by decide) ?_
  refine zt (show nI 1 = bI true from rfl) ?_
  exact W.zret (ty := .boolean) hx hb hr (z_narB _) (fun t ht _ => ⟨_, rfl, (rfl), ht⟩) (fun _ h => nomatch h) dX6_isNumber_14
abbrev rm_c_X6_isPlace_ok : Room := { frames := 0, cells := 0, slots := 0, locals := 0 }
abbrev q_c_X6_isPlace_ok (D : va_G) (j : Nat) (k : Nat) : Array Value → State → Outcome → State → Prop := vp_Si (fun r => r = (bI true))
set_option maxHeartbeats 4000000 in
set_option maxRecDepth 100000 in
theorem c_X6_isPlace_ok (l : Launch) (D : va_G) (j : Nat) (k : Nat) (hj : j < 4) (hk : k < 4) : Met l yX6_isPlace wsX6_isPlace rm_c_X6_isPlace_ok (va_Pc [.int (nI j), .int (nI k)] (fun _ => True)) (q_c_X6_isPlace_ok D j k) 0 0 (fun _ => False) := by
  refine Met.ofW (cc := cX6_isPlace) (maxL := 2) (ret := (some .boolean)) (by decide) rfl ?_
  intro p e s m args below meth c s₁ B hml hv
  obtain ⟨hargs, -⟩ := hv
  have hx := B.exec
  have hb := B.bytes
  have hr := B.returns
  have hts := atoms_spec (ws := wsX6_isPlace) B.pre
  have hown : s.vm.findClass RX6 = some m.cls := findClass_of_methodNamed B.named
  have hlocks := B.notSynchronized
  have hl := lv_entry ([.int (nI j), .int (nI k)]) (n := 2) (Nat.le_of_ble_eq_true rfl)
  refine W.eq (g2 := F0 m 0 (lg_sl ([.int (nI j), .int (nI k)]) ++ List.replicate (2 - (lg_sl ([.int (nI j), .int (nI k)])).length) Slot.unset).toArray []) (by rw [hargs]; exact lg_entry_eq _ _ _) ?_
  generalize (lg_sl ([.int (nI j), .int (nI k)]) ++ List.replicate (2 - (lg_sl ([.int (nI j), .int (nI k)])).length) Slot.unset).toArray = ls at hl ⊢
  have hl : lv_has ls 2 [(0, .int (nI j)), (1, .int (nI k))] := hl
  refine lv_iload_n hx hb dX6_isPlace_0 rfl (lv_at hl 0 rfl) ?_
  refine z_flt (tgt := 22) hx hb (by omega) dX6_isPlace_1 (by decide) ?_
  refine lv_iload_n hx hb dX6_isPlace_4 rfl (lv_at hl 0 rfl) ?_
  refine lv_iconst (v := nI 4) hx hb dX6_isPlace_5 zki_4 ?_
  refine z_cge (tgt := 22) hx hb (by omega) (by omega) dX6_isPlace_6 (by decide) (fun c_6 => absurd c_6 (by omega)) (fun c_6 => ?_)
  refine lv_iload_n hx hb dX6_isPlace_9 rfl (lv_at hl 1 rfl) ?_
  refine z_flt (tgt := 22) hx hb (by omega) dX6_isPlace_10 (by decide) ?_
  refine lv_iload_n hx hb dX6_isPlace_13 rfl (lv_at hl 1 rfl) ?_
  refine lv_iconst (v := nI 4) hx hb dX6_isPlace_14 zki_4 ?_
  refine z_cge (tgt := 22) hx hb (by omega) (by omega) dX6_isPlace_15 (by decide) (fun c_15 => absurd c_15 (by omega)) (fun c_15 => ?_)
  refine lv_iconst (v := nI 1) hx hb dX6_isPlace_18 zki_1 ?_
  refine lv_goto (tgt := 23) hx hb dX6_isPlace_19 (by decide) ?_
  refine zt (show nI 1 = bI true from rfl) ?_
  exact W.zret (ty := .boolean) hx hb hr (z_narB _) (fun t ht _ => ⟨_, rfl, (rfl), ht⟩) (fun _ h => nomatch h) dX6_isPlace_23
abbrev rm_c_X6_areNone_ok : Room := { frames := 1, cells := 0, slots := 0, locals := 22 }
abbrev q_c_X6_areNone_ok (D : va_G) (sz : Nat) (mo : Nat) (ra : Nat) (ca : Nat) (ha : Nat) (ba : Nat) (wa : Nat) (kp : Nat) (hd : Nat) (th : Nat) (j : Nat) (k : Nat) (i : Nat) : Array Value → State → Outcome → State → Prop := va_Qi (fun r (_ : Unit) => r = (bI false)) (fun (_ : Unit) t => va_P D vwCl [(mo, .inr (8, [.int (nI 0), .ref ra, .ref ca, .ref ha, .int (nI kp), .ref ba, .int (nI hd), .ref wa]))] t.heap ∧ va_K D vwCl [] t ∧ va_D (va_A [(mo, .inr (8, [.int (nI th), .ref ra, .ref ca, .ref ha, .int (nI kp), .ref ba, .int (nI hd), .ref wa]))] sz) [(mo, .inr (8, [.int (nI 0), .ref ra, .ref ca, .ref ha, .int (nI kp), .ref ba, .int (nI hd), .ref wa]))]) (va_A [(mo, .inr (8, [.int (nI th), .ref ra, .ref ca, .ref ha, .int (nI kp), .ref ba, .int (nI hd), .ref wa]))] sz)
set_option maxHeartbeats 4000000 in
set_option maxRecDepth 100000 in
theorem c_X6_areNone_ok (l : Launch) (D : va_G) (sz : Nat) (mo : Nat) (ra : Nat) (ca : Nat) (ha : Nat) (ba : Nat) (wa : Nat) (kp : Nat) (hd : Nat) (th : Nat) (j : Nat) (k : Nat) (i : Nat) (hj : j < 8) (hk : k < 8) (hi : i < 8) : Met l yX6_areNone wsX6_areNone rm_c_X6_areNone_ok (va_Pc [.ref mo, .int (nI j), .int (nI k), .int (nI i)] (fun U => U.heap.size = sz ∧ va_P D vwCl [(mo, .inr (8, [.int (nI th), .ref ra, .ref ca, .ref ha, .int (nI kp), .ref ba, .int (nI hd), .ref wa]))] U.heap ∧ va_K D vwCl [] U ∧ va_D (fun _ => True) [(mo, .inr (8, [.int (nI th), .ref ra, .ref ca, .ref ha, .int (nI kp), .ref ba, .int (nI hd), .ref wa]))])) (q_c_X6_areNone_ok D sz mo ra ca ha ba wa kp hd th j k i) 0 0 (va_A [(mo, .inr (8, [.int (nI th), .ref ra, .ref ca, .ref ha, .int (nI kp), .ref ba, .int (nI hd), .ref wa]))] sz) := by
  refine Met.ofW (cc := cX6_areNone) (maxL := 4) (ret := (some .boolean)) (by decide) rfl ?_
  intro p e s m args below meth c s₁ B hml hv
  obtain ⟨hargs, hsz, hP, hK, hD0⟩ := hv
  have hx := B.exec
  have hb := B.bytes
  have hr := B.returns
  have hts := atoms_spec (ws := wsX6_areNone) B.pre
  have hown : s.vm.findClass RX6 = some m.cls := findClass_of_methodNamed B.named
  have hlocks := B.notSynchronized
  subst hsz
  have hD := hD0.self (sz := s.heap.size)
  generalize hAe : va_A [(mo, .inr (8, [.int (nI th), .ref ra, .ref ca, .ref ha, .int (nI kp), .ref ba, .int (nI hd), .ref wa]))] s.heap.size = A at hD ⊢
  have hA : ∀ q : Nat, s.heap.size ≤ q → A q := fun q h => by rw [← hAe]; exact Or.inr h
  have hS : va_S A s.heap s.heap [] := va_S.rf
  have hl := lv_entry ([.ref mo, .int (nI j), .int (nI k), .int (nI i)]) (n := 4) (Nat.le_of_ble_eq_true rfl)
  refine W.eq (g2 := F0 m 0 (lg_sl ([.ref mo, .int (nI j), .int (nI k), .int (nI i)]) ++ List.replicate (4 - (lg_sl ([.ref mo, .int (nI j), .int (nI k), .int (nI i)])).length) Slot.unset).toArray []) (by rw [hargs]; exact lg_entry_eq _ _ _) ?_
  generalize (lg_sl ([.ref mo, .int (nI j), .int (nI k), .int (nI i)]) ++ List.replicate (4 - (lg_sl ([.ref mo, .int (nI j), .int (nI k), .int (nI i)])).length) Slot.unset).toArray = ls at hl ⊢
  have hl : lv_has ls 4 [(0, .ref mo), (1, .int (nI j)), (2, .int (nI k)), (3, .int (nI i))] := hl
  refine lv_aload_n hx hb dX6_areNone_0 rfl (lv_at hl 0 rfl) ?_
  refine lv_iconst (v := nI 0) hx hb dX6_areNone_1 zki_0 ?_
  refine va_put (D := D) (ci := 8) (v := .int (nI 0)) (ty := .int) (C := RX6) (T := TX6) (N := 8) hx hb hts nX6_areNone_inX6 tyX6 tyX6_ok nmX6 hown hK hP hD hS 0 rfl rfl 0 (by decide) (hts (.fieldLink RX6 26 "GamefieldModel" "thrown" "I") (by decide +kernel)) (fun _ h9 => h9) rfl (by decide +kernel) rfl rfl (Nat.le_of_ble_eq_true rfl) dX6_areNone_2 (fun H locs hP hD hS => ?_)
  have hP : va_P D vwCl [(mo, .inr (8, [.int (nI 0), .ref ra, .ref ca, .ref ha, .int (nI kp), .ref ba, .int (nI hd), .ref wa]))] H := hP
  have hD : va_D A [(mo, .inr (8, [.int (nI 0), .ref ra, .ref ca, .ref ha, .int (nI kp), .ref ba, .int (nI hd), .ref wa]))] := hD
  refine lv_aload_n hx hb dX6_areNone_5 rfl (lv_at hl 0 rfl) ?_
  refine lv_iload_n hx hb dX6_areNone_6 rfl (lv_at hl 1 rfl) ?_
  refine z_ci (va_runS (As := [.int (nI j)]) (rest := [.ref mo]) ⟨hx, hb, hml, hown, hts⟩ (c_X6_isRegister_ok l D j (by omega)) (va_cwS 1 hts gX6_areNone_X6_isRegister rfl rfl rfl (by decide +kernel) ⟨Nat.le_of_ble_eq_true rfl, Nat.le_of_ble_eq_true rfl⟩) ⟨z_fb0, fun U hU hW => ⟨rfl, trivial⟩⟩ rfl rfl hl.1 rfl (lv_room (Nat.le_of_ble_eq_true rfl)) dX6_areNone_7 ⟨Nat.le_of_ble_eq_true rfl, Nat.le_of_ble_eq_true rfl⟩) (fun r7 e7 => ?_)
  subst e7
  refine z_beq (tgt := 27) hx hb dX6_areNone_10 (by decide) (fun c_10 => absurd c_10 (by decide)) (fun c_10 => ?_)
  refine lv_iload_n hx hb dX6_areNone_13 rfl (lv_at hl 2 rfl) ?_
  refine z_ci (va_runS (As := [.int (nI k)]) (rest := [.ref mo]) ⟨hx, hb, hml, hown, hts⟩ (c_X6_isRegister_ok l D k (by omega)) (va_cwS 1 hts gX6_areNone_X6_isRegister rfl rfl rfl (by decide +kernel) ⟨Nat.le_of_ble_eq_true rfl, Nat.le_of_ble_eq_true rfl⟩) ⟨z_fb0, fun U hU hW => ⟨rfl, trivial⟩⟩ rfl rfl hl.1 rfl (lv_room (Nat.le_of_ble_eq_true rfl)) dX6_areNone_14 ⟨Nat.le_of_ble_eq_true rfl, Nat.le_of_ble_eq_true rfl⟩) (fun r14 e14 => ?_)
  subst e14
  refine z_beq (tgt := 27) hx hb dX6_areNone_17 (by decide) (fun c_17 => absurd c_17 (by decide)) (fun c_17 => ?_)
  refine lv_iload_n hx hb dX6_areNone_20 rfl (lv_at hl 3 rfl) ?_
  refine z_ci (va_runS (As := [.int (nI i)]) (rest := [.ref mo]) ⟨hx, hb, hml, hown, hts⟩ (c_X6_isRegister_ok l D i (by omega)) (va_cwS 1 hts gX6_areNone_X6_isRegister rfl rfl rfl (by decide +kernel) ⟨Nat.le_of_ble_eq_true rfl, Nat.le_of_ble_eq_true rfl⟩) ⟨z_fb0, fun U hU hW => ⟨rfl, trivial⟩⟩ rfl rfl hl.1 rfl (lv_room (Nat.le_of_ble_eq_true rfl)) dX6_areNone_21 ⟨Nat.le_of_ble_eq_true rfl, Nat.le_of_ble_eq_true rfl⟩) (fun r21 e21 => ?_)
  subst e21
  refine z_bne (tgt := 31) hx hb dX6_areNone_24 (by decide) (fun c_24 => ?_) (fun c_24 => absurd c_24 (by decide))
  refine lv_iconst (v := nI 0) hx hb dX6_areNone_31 zki_0 ?_
  refine lv_iconst (v := nI 1) hx hb dX6_areNone_32 zki_1 ?_
  have hPc := hP.sub (ws' := [(mo, .inr (8, [.int (nI 0), .ref ra, .ref ca, .ref ha, .int (nI kp), .ref ba, .int (nI hd), .ref wa]))]) [0] rfl
  have hDc := hD.sub (ws' := [(mo, .inr (8, [.int (nI 0), .ref ra, .ref ca, .ref ha, .int (nI kp), .ref ba, .int (nI hd), .ref wa]))]) [0] (by decide) rfl
  have hKc := hK.sub (tys' := []) [] rfl
  have hFc := va_free (wc := [(mo, .inr (8, [.int (nI 0), .ref ra, .ref ca, .ref ha, .int (nI kp), .ref ba, .int (nI hd), .ref wa]))]) hD hS hA [0] rfl
  refine va_calli (va_runV (As := [.int (nI 0), .int (nI 1)]) (rest := []) ⟨hx, hb, hml, hown, hts⟩ (c_X6_fails_false l D H.size mo ra ca ha ba wa kp hd 1 (by omega) (by omega)) (cwV 2 hts gX6_areNone_X6_fails rfl rfl rfl (by decide +kernel) ⟨Nat.le_of_ble_eq_true rfl, Nat.le_of_ble_eq_true rfl⟩) ⟨(z_fb2), va_recv hK hP (ci := 8) (q0 := 0) rfl rfl, fun U hU hW => ⟨rfl, by rw [hU], by rw [hU]; exact hPc, va_K.moved hW.alike hKc, hDc.weaken (fun _ _ _ _ => trivial)⟩⟩ rfl rfl hl.1 rfl (lv_room (Nat.le_of_ble_eq_true rfl)) dX6_areNone_33 ⟨Nat.le_of_ble_eq_true rfl, Nat.le_of_ble_eq_true rfl⟩) hS (fun q _ h => hFc q h) hFc (fun r33 u33 t H locs ht hvm e33 hB hz1 hk1 hS => ?_)
  obtain ⟨hP1, hK1, hD1⟩ := hB
  rw [ht] at hP1
  obtain ⟨hP, hD⟩ := va_join (wr := []) (w1 := [(mo, .inr (8, [.int (nI 0), .ref ra, .ref ca, .ref ha, .int (nI kp), .ref ba, .int (nI hd), .ref wa]))]) hP hD [0] [] rfl rfl (by decide) (by decide) hk1 hFc hP1 hD1
  have hP : va_P D vwCl [(mo, .inr (8, [.int (nI 0), .ref ra, .ref ca, .ref ha, .int (nI kp), .ref ba, .int (nI hd), .ref wa]))] H := hP
  have hD : va_D A [(mo, .inr (8, [.int (nI 0), .ref ra, .ref ca, .ref ha, .int (nI kp), .ref ba, .int (nI hd), .ref wa]))] := hD
  refine W.widen (k := 0) (n := 0) (Nat.le_of_ble_eq_true rfl) (Nat.le_of_ble_eq_true rfl) ?_
  subst e33
  have hP9 := hP.sub (ws' := [(mo, .inr (8, [.int (nI 0), .ref ra, .ref ca, .ref ha, .int (nI kp), .ref ba, .int (nI hd), .ref wa]))]) [0] rfl
  have hD9 := hD.sub (ws' := [(mo, .inr (8, [.int (nI 0), .ref ra, .ref ca, .ref ha, .int (nI kp), .ref ba, .int (nI hd), .ref wa]))]) [0] (by decide) rfl
  have hK9 := hK.sub (tys' := []) [] rfl
  subst hAe
  refine W.widen (k := 0) (n := 0) (Nat.le_of_ble_eq_true rfl) (Nat.le_of_ble_eq_true rfl) ?_
  exact W.zret (ty := .boolean) hx hb hr (z_narB _) (fun t ht hW => ⟨⟨_, (), rfl, (rfl), by rw [ht]; exact hP9, va_K.moved hW.alike hK9, hD9⟩, hS.F ht⟩) hS.2.2 dX6_areNone_36
abbrev rm_c_X6_areNone_no : Room := { frames := 1, cells := 0, slots := 0, locals := 22 }
abbrev q_c_X6_areNone_no (D : va_G) (sz : Nat) (mo : Nat) (ra : Nat) (ca : Nat) (ha : Nat) (ba : Nat) (wa : Nat) (kp : Nat) (hd : Nat) (th : Nat) (x0 : Int32) (x1 : Int32) (x2 : Int32) : Array Value → State → Outcome → State → Prop := va_Qi (fun r (_ : Unit) => r = (bI true)) (fun (_ : Unit) t => va_P D vwCl [(mo, .inr (8, [.int (nI 1), .ref ra, .ref ca, .ref ha, .int (nI kp), .ref ba, .int (nI hd), .ref wa]))] t.heap ∧ va_K D vwCl [] t ∧ va_D (va_A [(mo, .inr (8, [.int (nI th), .ref ra, .ref ca, .ref ha, .int (nI kp), .ref ba, .int (nI hd), .ref wa]))] sz) [(mo, .inr (8, [.int (nI 1), .ref ra, .ref ca, .ref ha, .int (nI kp), .ref ba, .int (nI hd), .ref wa]))]) (va_A [(mo, .inr (8, [.int (nI th), .ref ra, .ref ca, .ref ha, .int (nI kp), .ref ba, .int (nI hd), .ref wa]))] sz)
set_option maxHeartbeats 4000000 in
set_option maxRecDepth 100000 in
theorem c_X6_areNone_no (l : Launch) (D : va_G) (sz : Nat) (mo : Nat) (ra : Nat) (ca : Nat) (ha : Nat) (ba : Nat) (wa : Nat) (kp : Nat) (hd : Nat) (th : Nat) (x0 : Int32) (x1 : Int32) (x2 : Int32) (hno : ok3 x0 x1 x2 = false) : Met l yX6_areNone wsX6_areNone rm_c_X6_areNone_no (va_Pc [.ref mo, .int x0, .int x1, .int x2] (fun U => U.heap.size = sz ∧ va_P D vwCl [(mo, .inr (8, [.int (nI th), .ref ra, .ref ca, .ref ha, .int (nI kp), .ref ba, .int (nI hd), .ref wa]))] U.heap ∧ va_K D vwCl [] U ∧ va_D (fun _ => True) [(mo, .inr (8, [.int (nI th), .ref ra, .ref ca, .ref ha, .int (nI kp), .ref ba, .int (nI hd), .ref wa]))])) (q_c_X6_areNone_no D sz mo ra ca ha ba wa kp hd th x0 x1 x2) 0 0 (va_A [(mo, .inr (8, [.int (nI th), .ref ra, .ref ca, .ref ha, .int (nI kp), .ref ba, .int (nI hd), .ref wa]))] sz) := by
  refine Met.ofW (cc := cX6_areNone) (maxL := 4) (ret := (some .boolean)) (by decide) rfl ?_
  intro p e s m args below meth c s₁ B hml hv
  obtain ⟨hargs, hsz, hP, hK, hD0⟩ := hv
  have hx := B.exec
  have hb := B.bytes
  have hr := B.returns
  have hts := atoms_spec (ws := wsX6_areNone) B.pre
  have hown : s.vm.findClass RX6 = some m.cls := findClass_of_methodNamed B.named
  have hlocks := B.notSynchronized
  subst hsz
  have hD := hD0.self (sz := s.heap.size)
  generalize hAe : va_A [(mo, .inr (8, [.int (nI th), .ref ra, .ref ca, .ref ha, .int (nI kp), .ref ba, .int (nI hd), .ref wa]))] s.heap.size = A at hD ⊢
  have hA : ∀ q : Nat, s.heap.size ≤ q → A q := fun q h => by rw [← hAe]; exact Or.inr h
  have hS : va_S A s.heap s.heap [] := va_S.rf
  have hl := lv_entry ([.ref mo, .int x0, .int x1, .int x2]) (n := 4) (Nat.le_of_ble_eq_true rfl)
  refine W.eq (g2 := F0 m 0 (lg_sl ([.ref mo, .int x0, .int x1, .int x2]) ++ List.replicate (4 - (lg_sl ([.ref mo, .int x0, .int x1, .int x2])).length) Slot.unset).toArray []) (by rw [hargs]; exact lg_entry_eq _ _ _) ?_
  generalize (lg_sl ([.ref mo, .int x0, .int x1, .int x2]) ++ List.replicate (4 - (lg_sl ([.ref mo, .int x0, .int x1, .int x2])).length) Slot.unset).toArray = ls at hl ⊢
  have hl : lv_has ls 4 [(0, .ref mo), (1, .int x0), (2, .int x1), (3, .int x2)] := hl
  refine lv_aload_n hx hb dX6_areNone_0 rfl (lv_at hl 0 rfl) ?_
  refine lv_iconst (v := nI 0) hx hb dX6_areNone_1 zki_0 ?_
  refine va_put (D := D) (ci := 8) (v := .int (nI 0)) (ty := .int) (C := RX6) (T := TX6) (N := 8) hx hb hts nX6_areNone_inX6 tyX6 tyX6_ok nmX6 hown hK hP hD hS 0 rfl rfl 0 (by decide) (hts (.fieldLink RX6 26 "GamefieldModel" "thrown" "I") (by decide +kernel)) (fun _ h9 => h9) rfl (by decide +kernel) rfl rfl (Nat.le_of_ble_eq_true rfl) dX6_areNone_2 (fun H locs hP hD hS => ?_)
  have hP : va_P D vwCl [(mo, .inr (8, [.int (nI 0), .ref ra, .ref ca, .ref ha, .int (nI kp), .ref ba, .int (nI hd), .ref wa]))] H := hP
  have hD : va_D A [(mo, .inr (8, [.int (nI 0), .ref ra, .ref ca, .ref ha, .int (nI kp), .ref ba, .int (nI hd), .ref wa]))] := hD
  refine lv_aload_n hx hb dX6_areNone_5 rfl (lv_at hl 0 rfl) ?_
  refine lv_iload_n hx hb dX6_areNone_6 rfl (lv_at hl 1 rfl) ?_
  refine z_ci (va_runS (As := [.int x0]) (rest := [.ref mo]) ⟨hx, hb, hml, hown, hts⟩ (c_X6_isRegister l D x0 ) (va_cwS 1 hts gX6_areNone_X6_isRegister rfl rfl rfl (by decide +kernel) ⟨Nat.le_of_ble_eq_true rfl, Nat.le_of_ble_eq_true rfl⟩) ⟨z_fb0, fun U hU hW => ⟨rfl, trivial⟩⟩ rfl rfl hl.1 rfl (lv_room (Nat.le_of_ble_eq_true rfl)) dX6_areNone_7 ⟨Nat.le_of_ble_eq_true rfl, Nat.le_of_ble_eq_true rfl⟩) (fun r7 e7 => ?_)
  subst e7
  refine z_beq (tgt := 27) hx hb dX6_areNone_10 (by decide) (fun c_10 => ?_) (fun c_10 => ?_)
  · refine lv_iconst (v := nI 1) hx hb dX6_areNone_27 zki_1 ?_
    refine lv_goto (tgt := 32) hx hb dX6_areNone_28 (by decide) ?_
    refine lv_iconst (v := nI 1) hx hb dX6_areNone_32 zki_1 ?_
    have hPc := hP.sub (ws' := [(mo, .inr (8, [.int (nI 0), .ref ra, .ref ca, .ref ha, .int (nI kp), .ref ba, .int (nI hd), .ref wa]))]) [0] rfl
    have hDc := hD.sub (ws' := [(mo, .inr (8, [.int (nI 0), .ref ra, .ref ca, .ref ha, .int (nI kp), .ref ba, .int (nI hd), .ref wa]))]) [0] (by decide) rfl
    have hKc := hK.sub (tys' := []) [] rfl
    have hFc := va_free (wc := [(mo, .inr (8, [.int (nI 0), .ref ra, .ref ca, .ref ha, .int (nI kp), .ref ba, .int (nI hd), .ref wa]))]) hD hS hA [0] rfl
    refine va_calli (va_runV (As := [.int (nI 1), .int (nI 1)]) (rest := []) ⟨hx, hb, hml, hown, hts⟩ (c_X6_fails_true l D H.size mo ra ca ha ba wa kp hd 1 (by omega) (by omega)) (cwV 2 hts gX6_areNone_X6_fails rfl rfl rfl (by decide +kernel) ⟨Nat.le_of_ble_eq_true rfl, Nat.le_of_ble_eq_true rfl⟩) ⟨(z_fb2), va_recv hK hP (ci := 8) (q0 := 0) rfl rfl, fun U hU hW => ⟨rfl, by rw [hU], by rw [hU]; exact hPc, va_K.moved hW.alike hKc, hDc.weaken (fun _ _ _ _ => trivial)⟩⟩ rfl rfl hl.1 rfl (lv_room (Nat.le_of_ble_eq_true rfl)) dX6_areNone_33 ⟨Nat.le_of_ble_eq_true rfl, Nat.le_of_ble_eq_true rfl⟩) hS (fun q _ h => hFc q h) hFc (fun r33 u33 t H locs ht hvm e33 hB hz1 hk1 hS => ?_)
    obtain ⟨hP1, hK1, hD1⟩ := hB
    rw [ht] at hP1
    obtain ⟨hP, hD⟩ := va_join (wr := []) (w1 := [(mo, .inr (8, [.int (nI 1), .ref ra, .ref ca, .ref ha, .int (nI kp), .ref ba, .int (nI hd), .ref wa]))]) hP hD [0] [] rfl rfl (by decide) (by decide) hk1 hFc hP1 hD1
    have hP : va_P D vwCl [(mo, .inr (8, [.int (nI 1), .ref ra, .ref ca, .ref ha, .int (nI kp), .ref ba, .int (nI hd), .ref wa]))] H := hP
    have hD : va_D A [(mo, .inr (8, [.int (nI 1), .ref ra, .ref ca, .ref ha, .int (nI kp), .ref ba, .int (nI hd), .ref wa]))] := hD
    refine W.widen (k := 0) (n := 0) (Nat.le_of_ble_eq_true rfl) (Nat.le_of_ble_eq_true rfl) ?_
    subst e33
    have hP9 := hP.sub (ws' := [(mo, .inr (8, [.int (nI 1), .ref ra, .ref ca, .ref ha, .int (nI kp), .ref ba, .int (nI hd), .ref wa]))]) [0] rfl
    have hD9 := hD.sub (ws' := [(mo, .inr (8, [.int (nI 1), .ref ra, .ref ca, .ref ha, .int (nI kp), .ref ba, .int (nI hd), .ref wa]))]) [0] (by decide) rfl
    have hK9 := hK.sub (tys' := []) [] rfl
    subst hAe
    refine W.widen (k := 0) (n := 0) (Nat.le_of_ble_eq_true rfl) (Nat.le_of_ble_eq_true rfl) ?_
    exact W.zret (ty := .boolean) hx hb hr (z_narB _) (fun t ht hW => ⟨⟨_, (), rfl, (rfl), by rw [ht]; exact hP9, va_K.moved hW.alike hK9, hD9⟩, hS.F ht⟩) hS.2.2 dX6_areNone_36
  · refine lv_iload_n hx hb dX6_areNone_13 rfl (lv_at hl 2 rfl) ?_
    refine z_ci (va_runS (As := [.int x1]) (rest := [.ref mo]) ⟨hx, hb, hml, hown, hts⟩ (c_X6_isRegister l D x1 ) (va_cwS 1 hts gX6_areNone_X6_isRegister rfl rfl rfl (by decide +kernel) ⟨Nat.le_of_ble_eq_true rfl, Nat.le_of_ble_eq_true rfl⟩) ⟨z_fb0, fun U hU hW => ⟨rfl, trivial⟩⟩ rfl rfl hl.1 rfl (lv_room (Nat.le_of_ble_eq_true rfl)) dX6_areNone_14 ⟨Nat.le_of_ble_eq_true rfl, Nat.le_of_ble_eq_true rfl⟩) (fun r14 e14 => ?_)
    subst e14
    refine z_beq (tgt := 27) hx hb dX6_areNone_17 (by decide) (fun c_17 => ?_) (fun c_17 => ?_)
    · refine lv_iconst (v := nI 1) hx hb dX6_areNone_27 zki_1 ?_
      refine lv_goto (tgt := 32) hx hb dX6_areNone_28 (by decide) ?_
      refine lv_iconst (v := nI 1) hx hb dX6_areNone_32 zki_1 ?_
      have hPc := hP.sub (ws' := [(mo, .inr (8, [.int (nI 0), .ref ra, .ref ca, .ref ha, .int (nI kp), .ref ba, .int (nI hd), .ref wa]))]) [0] rfl
      have hDc := hD.sub (ws' := [(mo, .inr (8, [.int (nI 0), .ref ra, .ref ca, .ref ha, .int (nI kp), .ref ba, .int (nI hd), .ref wa]))]) [0] (by decide) rfl
      have hKc := hK.sub (tys' := []) [] rfl
      have hFc := va_free (wc := [(mo, .inr (8, [.int (nI 0), .ref ra, .ref ca, .ref ha, .int (nI kp), .ref ba, .int (nI hd), .ref wa]))]) hD hS hA [0] rfl
      refine va_calli (va_runV (As := [.int (nI 1), .int (nI 1)]) (rest := []) ⟨hx, hb, hml, hown, hts⟩ (c_X6_fails_true l D H.size mo ra ca ha ba wa kp hd 1 (by omega) (by omega)) (cwV 2 hts gX6_areNone_X6_fails rfl rfl rfl (by decide +kernel) ⟨Nat.le_of_ble_eq_true rfl, Nat.le_of_ble_eq_true rfl⟩) ⟨(z_fb2), va_recv hK hP (ci := 8) (q0 := 0) rfl rfl, fun U hU hW => ⟨rfl, by rw [hU], by rw [hU]; exact hPc, va_K.moved hW.alike hKc, hDc.weaken (fun _ _ _ _ => trivial)⟩⟩ rfl rfl hl.1 rfl (lv_room (Nat.le_of_ble_eq_true rfl)) dX6_areNone_33 ⟨Nat.le_of_ble_eq_true rfl, Nat.le_of_ble_eq_true rfl⟩) hS (fun q _ h => hFc q h) hFc (fun r33 u33 t H locs ht hvm e33 hB hz1 hk1 hS => ?_)
      obtain ⟨hP1, hK1, hD1⟩ := hB
      rw [ht] at hP1
      obtain ⟨hP, hD⟩ := va_join (wr := []) (w1 := [(mo, .inr (8, [.int (nI 1), .ref ra, .ref ca, .ref ha, .int (nI kp), .ref ba, .int (nI hd), .ref wa]))]) hP hD [0] [] rfl rfl (by decide) (by decide) hk1 hFc hP1 hD1
      have hP : va_P D vwCl [(mo, .inr (8, [.int (nI 1), .ref ra, .ref ca, .ref ha, .int (nI kp), .ref ba, .int (nI hd), .ref wa]))] H := hP
      have hD : va_D A [(mo, .inr (8, [.int (nI 1), .ref ra, .ref ca, .ref ha, .int (nI kp), .ref ba, .int (nI hd), .ref wa]))] := hD
      refine W.widen (k := 0) (n := 0) (Nat.le_of_ble_eq_true rfl) (Nat.le_of_ble_eq_true rfl) ?_
      subst e33
      have hP9 := hP.sub (ws' := [(mo, .inr (8, [.int (nI 1), .ref ra, .ref ca, .ref ha, .int (nI kp), .ref ba, .int (nI hd), .ref wa]))]) [0] rfl
      have hD9 := hD.sub (ws' := [(mo, .inr (8, [.int (nI 1), .ref ra, .ref ca, .ref ha, .int (nI kp), .ref ba, .int (nI hd), .ref wa]))]) [0] (by decide) rfl
      have hK9 := hK.sub (tys' := []) [] rfl
      subst hAe
      refine W.widen (k := 0) (n := 0) (Nat.le_of_ble_eq_true rfl) (Nat.le_of_ble_eq_true rfl) ?_
      exact W.zret (ty := .boolean) hx hb hr (z_narB _) (fun t ht hW => ⟨⟨_, (), rfl, (rfl), by rw [ht]; exact hP9, va_K.moved hW.alike hK9, hD9⟩, hS.F ht⟩) hS.2.2 dX6_areNone_36
    · refine lv_iload_n hx hb dX6_areNone_20 rfl (lv_at hl 3 rfl) ?_
      refine z_ci (va_runS (As := [.int x2]) (rest := [.ref mo]) ⟨hx, hb, hml, hown, hts⟩ (c_X6_isRegister l D x2 ) (va_cwS 1 hts gX6_areNone_X6_isRegister rfl rfl rfl (by decide +kernel) ⟨Nat.le_of_ble_eq_true rfl, Nat.le_of_ble_eq_true rfl⟩) ⟨z_fb0, fun U hU hW => ⟨rfl, trivial⟩⟩ rfl rfl hl.1 rfl (lv_room (Nat.le_of_ble_eq_true rfl)) dX6_areNone_21 ⟨Nat.le_of_ble_eq_true rfl, Nat.le_of_ble_eq_true rfl⟩) (fun r21 e21 => ?_)
      subst e21
      refine z_bne (tgt := 31) hx hb dX6_areNone_24 (by decide) (fun c_24 => absurd hno (by simp [ok3, c_10, c_17, c_24])) (fun c_24 => ?_)
      refine lv_iconst (v := nI 1) hx hb dX6_areNone_27 zki_1 ?_
      refine lv_goto (tgt := 32) hx hb dX6_areNone_28 (by decide) ?_
      refine lv_iconst (v := nI 1) hx hb dX6_areNone_32 zki_1 ?_
      have hPc := hP.sub (ws' := [(mo, .inr (8, [.int (nI 0), .ref ra, .ref ca, .ref ha, .int (nI kp), .ref ba, .int (nI hd), .ref wa]))]) [0] rfl
      have hDc := hD.sub (ws' := [(mo, .inr (8, [.int (nI 0), .ref ra, .ref ca, .ref ha, .int (nI kp), .ref ba, .int (nI hd), .ref wa]))]) [0] (by decide) rfl
      have hKc := hK.sub (tys' := []) [] rfl
      have hFc := va_free (wc := [(mo, .inr (8, [.int (nI 0), .ref ra, .ref ca, .ref ha, .int (nI kp), .ref ba, .int (nI hd), .ref wa]))]) hD hS hA [0] rfl
      refine va_calli (va_runV (As := [.int (nI 1), .int (nI 1)]) (rest := []) ⟨hx, hb, hml, hown, hts⟩ (c_X6_fails_true l D H.size mo ra ca ha ba wa kp hd 1 (by omega) (by omega)) (cwV 2 hts gX6_areNone_X6_fails rfl rfl rfl (by decide +kernel) ⟨Nat.le_of_ble_eq_true rfl, Nat.le_of_ble_eq_true rfl⟩) ⟨(z_fb2), va_recv hK hP (ci := 8) (q0 := 0) rfl rfl, fun U hU hW => ⟨rfl, by rw [hU], by rw [hU]; exact hPc, va_K.moved hW.alike hKc, hDc.weaken (fun _ _ _ _ => trivial)⟩⟩ rfl rfl hl.1 rfl (lv_room (Nat.le_of_ble_eq_true rfl)) dX6_areNone_33 ⟨Nat.le_of_ble_eq_true rfl, Nat.le_of_ble_eq_true rfl⟩) hS (fun q _ h => hFc q h) hFc (fun r33 u33 t H locs ht hvm e33 hB hz1 hk1 hS => ?_)
      obtain ⟨hP1, hK1, hD1⟩ := hB
      rw [ht] at hP1
      obtain ⟨hP, hD⟩ := va_join (wr := []) (w1 := [(mo, .inr (8, [.int (nI 1), .ref ra, .ref ca, .ref ha, .int (nI kp), .ref ba, .int (nI hd), .ref wa]))]) hP hD [0] [] rfl rfl (by decide) (by decide) hk1 hFc hP1 hD1
      have hP : va_P D vwCl [(mo, .inr (8, [.int (nI 1), .ref ra, .ref ca, .ref ha, .int (nI kp), .ref ba, .int (nI hd), .ref wa]))] H := hP
      have hD : va_D A [(mo, .inr (8, [.int (nI 1), .ref ra, .ref ca, .ref ha, .int (nI kp), .ref ba, .int (nI hd), .ref wa]))] := hD
      refine W.widen (k := 0) (n := 0) (Nat.le_of_ble_eq_true rfl) (Nat.le_of_ble_eq_true rfl) ?_
      subst e33
      have hP9 := hP.sub (ws' := [(mo, .inr (8, [.int (nI 1), .ref ra, .ref ca, .ref ha, .int (nI kp), .ref ba, .int (nI hd), .ref wa]))]) [0] rfl
      have hD9 := hD.sub (ws' := [(mo, .inr (8, [.int (nI 1), .ref ra, .ref ca, .ref ha, .int (nI kp), .ref ba, .int (nI hd), .ref wa]))]) [0] (by decide) rfl
      have hK9 := hK.sub (tys' := []) [] rfl
      subst hAe
      refine W.widen (k := 0) (n := 0) (Nat.le_of_ble_eq_true rfl) (Nat.le_of_ble_eq_true rfl) ?_
      exact W.zret (ty := .boolean) hx hb hr (z_narB _) (fun t ht hW => ⟨⟨_, (), rfl, (rfl), by rw [ht]; exact hP9, va_K.moved hW.alike hK9, hD9⟩, hS.F ht⟩) hS.2.2 dX6_areNone_36
abbrev rm_c_X6_becomes : Room := { frames := 0, cells := 0, slots := 0, locals := 0 }
abbrev q_c_X6_becomes (D : va_G) (sz : Nat) (mo : Nat) (ra : Nat) (ca : Nat) (ha : Nat) (ba : Nat) (wa : Nat) (kp : Nat) (hd : Nat) (kr : ClassId) (kc : ClassId) (kh : ClassId) (th : Nat) (rf : Nat → Nat) (cf : Nat → Nat) (hf : Nat → Nat) (j : Nat) (v : Nat) : Array Value → State → Outcome → State → Prop := va_Qi (fun r (_ : Unit) => r = (nI v)) (fun (_ : Unit) t => va_P D vwCl [(mo, .inr (8, [.int (nI th), .ref ra, .ref ca, .ref ha, .int (nI (min kp 7 + 1)), .ref ba, .int (nI hd), .ref wa])), (ra, .inl (kr, 8, .inl (aN (va_up rf j v)))), (ca, .inl (kc, 8, .inl (aN (rng cf kp j)))), (ha, .inl (kh, 8, .inl (aN (rng hf kp (rf j)))))] t.heap ∧ va_K D vwCl [(kr, .int), (kc, .int), (kh, .int)] t ∧ va_D (va_A [(mo, .inr (8, [.int (nI th), .ref ra, .ref ca, .ref ha, .int (nI kp), .ref ba, .int (nI hd), .ref wa])), (ra, .inl (kr, 8, .inl (aN rf))), (ca, .inl (kc, 8, .inl (aN cf))), (ha, .inl (kh, 8, .inl (aN hf)))] sz) [(mo, .inr (8, [.int (nI th), .ref ra, .ref ca, .ref ha, .int (nI (min kp 7 + 1)), .ref ba, .int (nI hd), .ref wa])), (ra, .inl (kr, 8, .inl (aN (va_up rf j v)))), (ca, .inl (kc, 8, .inl (aN (rng cf kp j)))), (ha, .inl (kh, 8, .inl (aN (rng hf kp (rf j)))))]) (va_A [(mo, .inr (8, [.int (nI th), .ref ra, .ref ca, .ref ha, .int (nI kp), .ref ba, .int (nI hd), .ref wa])), (ra, .inl (kr, 8, .inl (aN rf))), (ca, .inl (kc, 8, .inl (aN cf))), (ha, .inl (kh, 8, .inl (aN hf)))] sz)
set_option maxHeartbeats 4000000 in
set_option maxRecDepth 100000 in
theorem c_X6_becomes (l : Launch) (D : va_G) (sz : Nat) (mo : Nat) (ra : Nat) (ca : Nat) (ha : Nat) (ba : Nat) (wa : Nat) (kp : Nat) (hd : Nat) (kr : ClassId) (kc : ClassId) (kh : ClassId) (th : Nat) (rf : Nat → Nat) (cf : Nat → Nat) (hf : Nat → Nat) (j : Nat) (v : Nat) (hrf : ∀ k, k < 8 → rf k < 256) (hkp : kp ≤ 8) (hj : j < 8) (hv8 : v < 256) : Met l yX6_becomes wsX6_becomes rm_c_X6_becomes (va_Pc [.ref mo, .int (nI j), .int (nI v)] (fun U => U.heap.size = sz ∧ va_P D vwCl [(mo, .inr (8, [.int (nI th), .ref ra, .ref ca, .ref ha, .int (nI kp), .ref ba, .int (nI hd), .ref wa])), (ra, .inl (kr, 8, .inl (aN rf))), (ca, .inl (kc, 8, .inl (aN cf))), (ha, .inl (kh, 8, .inl (aN hf)))] U.heap ∧ va_K D vwCl [(kr, .int), (kc, .int), (kh, .int)] U ∧ va_D (fun _ => True) [(mo, .inr (8, [.int (nI th), .ref ra, .ref ca, .ref ha, .int (nI kp), .ref ba, .int (nI hd), .ref wa])), (ra, .inl (kr, 8, .inl (aN rf))), (ca, .inl (kc, 8, .inl (aN cf))), (ha, .inl (kh, 8, .inl (aN hf)))])) (q_c_X6_becomes D sz mo ra ca ha ba wa kp hd kr kc kh th rf cf hf j v) 0 0 (va_A [(mo, .inr (8, [.int (nI th), .ref ra, .ref ca, .ref ha, .int (nI kp), .ref ba, .int (nI hd), .ref wa])), (ra, .inl (kr, 8, .inl (aN rf))), (ca, .inl (kc, 8, .inl (aN cf))), (ha, .inl (kh, 8, .inl (aN hf)))] sz) := by
  refine Met.ofW (cc := cX6_becomes) (maxL := 4) (ret := (some .int)) (by decide) rfl ?_
  intro p e s m args below meth c s₁ B hml hv
  obtain ⟨hargs, hsz, hP, hK, hD0⟩ := hv
  have hx := B.exec
  have hb := B.bytes
  have hr := B.returns
  have hts := atoms_spec (ws := wsX6_becomes) B.pre
  have hown : s.vm.findClass RX6 = some m.cls := findClass_of_methodNamed B.named
  have hlocks := B.notSynchronized
  subst hsz
  have hD := hD0.self (sz := s.heap.size)
  generalize hAe : va_A [(mo, .inr (8, [.int (nI th), .ref ra, .ref ca, .ref ha, .int (nI kp), .ref ba, .int (nI hd), .ref wa])), (ra, .inl (kr, 8, .inl (aN rf))), (ca, .inl (kc, 8, .inl (aN cf))), (ha, .inl (kh, 8, .inl (aN hf)))] s.heap.size = A at hD ⊢
  have hA : ∀ q : Nat, s.heap.size ≤ q → A q := fun q h => by rw [← hAe]; exact Or.inr h
  have hS : va_S A s.heap s.heap [] := va_S.rf
  have hl := lv_entry ([.ref mo, .int (nI j), .int (nI v)]) (n := 4) (Nat.le_of_ble_eq_true rfl)
  refine W.eq (g2 := F0 m 0 (lg_sl ([.ref mo, .int (nI j), .int (nI v)]) ++ List.replicate (4 - (lg_sl ([.ref mo, .int (nI j), .int (nI v)])).length) Slot.unset).toArray []) (by rw [hargs]; exact lg_entry_eq _ _ _) ?_
  generalize (lg_sl ([.ref mo, .int (nI j), .int (nI v)]) ++ List.replicate (4 - (lg_sl ([.ref mo, .int (nI j), .int (nI v)])).length) Slot.unset).toArray = ls at hl ⊢
  have hl : lv_has ls 4 [(0, .ref mo), (1, .int (nI j)), (2, .int (nI v))] := hl
  refine lv_aload_n hx hb dX6_becomes_0 rfl (lv_at hl 0 rfl) ?_
  refine va_get (D := D) (ci := 8) (v := .int (nI kp)) (C := RX6) (T := TX6) (N := 8) hx hb hts nX6_becomes_inX6 hown hK hP 0 rfl rfl 4 (by decide) (hts (.fieldLink RX6 49 "GamefieldModel" "kept" "I") (by decide +kernel)) (fun _ h9 => h9) rfl dX6_becomes_1 ?_
  refine lv_bipush (v := nI 8) hx hb dX6_becomes_4 zkb_8 ?_
  have cut_61 : ∀  (H : Heap) (locs : List Loc) (hP : va_P D vwCl [(mo, .inr (8, [.int (nI th), .ref ra, .ref ca, .ref ha, .int (nI (min kp 7)), .ref ba, .int (nI hd), .ref wa])), (ra, .inl (kr, 8, .inl (aN rf))), (ca, .inl (kc, 8, .inl (aN (if kp = 8 then shd cf 8 else cf)))), (ha, .inl (kh, 8, .inl (aN (if kp = 8 then shd hf 8 else hf))))] H) (hD : va_D A [(mo, .inr (8, [.int (nI th), .ref ra, .ref ca, .ref ha, .int (nI (min kp 7)), .ref ba, .int (nI hd), .ref wa])), (ra, .inl (kr, 8, .inl (aN rf))), (ca, .inl (kc, 8, .inl (aN (if kp = 8 then shd cf 8 else cf)))), (ha, .inl (kh, 8, .inl (aN (if kp = 8 then shd hf 8 else hf))))]) (hS : va_S A s.heap H locs) (ls : Array Slot) (hl : lv_has ls 4 [(0, .ref mo), (1, .int (nI j)), (2, .int (nI v))]), W p l e (headSpec wsX6_becomes rm_c_X6_becomes).room s m args below meth c H locs 0 0 (MQ below (q_c_X6_becomes D s.heap.size mo ra ca ha ba wa kp hd kr kc kh th rf cf hf j v) args s 0 0 A) (F0 m 61 ls []) := by
    intro   H locs hP hD hS ls hl
    refine lv_aload_n hx hb dX6_becomes_61 rfl (lv_at hl 0 rfl) ?_
    refine va_get (D := D) (ci := 8) (v := .ref ca) (C := RX6) (T := TX6) (N := 8) hx hb hts nX6_becomes_inX6 hown hK hP 0 rfl rfl 2 (by decide) (hts (.fieldLink RX6 13 "GamefieldModel" "changed" "[I") (by decide +kernel)) (fun _ h9 => h9) rfl dX6_becomes_62 ?_
    refine lv_aload_n hx hb dX6_becomes_65 rfl (lv_at hl 0 rfl) ?_
    refine va_get (D := D) (ci := 8) (v := .int (nI (min kp 7))) (C := RX6) (T := TX6) (N := 8) hx hb hts nX6_becomes_inX6 hown hK hP 0 rfl rfl 4 (by decide) (hts (.fieldLink RX6 49 "GamefieldModel" "kept" "I") (by decide +kernel)) (fun _ h9 => h9) rfl dX6_becomes_66 ?_
    refine lv_iload_n hx hb dX6_becomes_69 rfl (lv_at hl 1 rfl) ?_
    refine z_iast hx hb hK hP hD hS 2 1 rfl rfl (by omega) (by decide) dX6_becomes_70 (fun H locs hP hD hS => ?_)
    have hP : va_P D vwCl [(mo, .inr (8, [.int (nI th), .ref ra, .ref ca, .ref ha, .int (nI (min kp 7)), .ref ba, .int (nI hd), .ref wa])), (ra, .inl (kr, 8, .inl (aN rf))), (ca, .inl (kc, 8, .inl (aN (va_up (if kp = 8 then shd cf 8 else cf) (min kp 7) j)))), (ha, .inl (kh, 8, .inl (aN (if kp = 8 then shd hf 8 else hf))))] H := hP
    have hD : va_D A [(mo, .inr (8, [.int (nI th), .ref ra, .ref ca, .ref ha, .int (nI (min kp 7)), .ref ba, .int (nI hd), .ref wa])), (ra, .inl (kr, 8, .inl (aN rf))), (ca, .inl (kc, 8, .inl (aN (va_up (if kp = 8 then shd cf 8 else cf) (min kp 7) j)))), (ha, .inl (kh, 8, .inl (aN (if kp = 8 then shd hf 8 else hf))))] := hD
    refine lv_aload_n hx hb dX6_becomes_71 rfl (lv_at hl 0 rfl) ?_
    refine va_get (D := D) (ci := 8) (v := .ref ha) (C := RX6) (T := TX6) (N := 8) hx hb hts nX6_becomes_inX6 hown hK hP 0 rfl rfl 3 (by decide) (hts (.fieldLink RX6 16 "GamefieldModel" "had" "[I") (by decide +kernel)) (fun _ h9 => h9) rfl dX6_becomes_72 ?_
    refine lv_aload_n hx hb dX6_becomes_75 rfl (lv_at hl 0 rfl) ?_
    refine va_get (D := D) (ci := 8) (v := .int (nI (min kp 7))) (C := RX6) (T := TX6) (N := 8) hx hb hts nX6_becomes_inX6 hown hK hP 0 rfl rfl 4 (by decide) (hts (.fieldLink RX6 49 "GamefieldModel" "kept" "I") (by decide +kernel)) (fun _ h9 => h9) rfl dX6_becomes_76 ?_
    refine lv_aload_n hx hb dX6_becomes_79 rfl (lv_at hl 0 rfl) ?_
    refine va_get (D := D) (ci := 8) (v := .ref ra) (C := RX6) (T := TX6) (N := 8) hx hb hts nX6_becomes_inX6 hown hK hP 0 rfl rfl 1 (by decide) (hts (.fieldLink RX6 9 "GamefieldModel" "registers" "[I") (by decide +kernel)) (fun _ h9 => h9) rfl dX6_becomes_80 ?_
    refine lv_iload_n hx hb dX6_becomes_83 rfl (lv_at hl 1 rfl) ?_
    refine z_iald hx hb hK hP 1 0 rfl rfl (by omega) (by decide) dX6_becomes_84 ?_
    refine z_iast hx hb hK hP hD hS 3 2 rfl rfl (by omega) (by decide) dX6_becomes_85 (fun H locs hP hD hS => ?_)
    have hP : va_P D vwCl [(mo, .inr (8, [.int (nI th), .ref ra, .ref ca, .ref ha, .int (nI (min kp 7)), .ref ba, .int (nI hd), .ref wa])), (ra, .inl (kr, 8, .inl (aN rf))), (ca, .inl (kc, 8, .inl (aN (va_up (if kp = 8 then shd cf 8 else cf) (min kp 7) j)))), (ha, .inl (kh, 8, .inl (aN (va_up (if kp = 8 then shd hf 8 else hf) (min kp 7) (rf j)))))] H := hP
    have hD : va_D A [(mo, .inr (8, [.int (nI th), .ref ra, .ref ca, .ref ha, .int (nI (min kp 7)), .ref ba, .int (nI hd), .ref wa])), (ra, .inl (kr, 8, .inl (aN rf))), (ca, .inl (kc, 8, .inl (aN (va_up (if kp = 8 then shd cf 8 else cf) (min kp 7) j)))), (ha, .inl (kh, 8, .inl (aN (va_up (if kp = 8 then shd hf 8 else hf) (min kp 7) (rf j)))))] := hD
    refine lv_aload_n hx hb dX6_becomes_86 rfl (lv_at hl 0 rfl) ?_
    refine lv_dup hx hb dX6_becomes_87 rfl ?_
    refine va_get (D := D) (ci := 8) (v := .int (nI (min kp 7))) (C := RX6) (T := TX6) (N := 8) hx hb hts nX6_becomes_inX6 hown hK hP 0 rfl rfl 4 (by decide) (hts (.fieldLink RX6 49 "GamefieldModel" "kept" "I") (by decide +kernel)) (fun _ h9 => h9) rfl dX6_becomes_88 ?_
    refine lv_iconst (v := nI 1) hx hb dX6_becomes_91 zki_1 ?_
    refine z_add hx hb dX6_becomes_92 ?_
    refine va_put (D := D) (ci := 8) (v := .int (nI ((min kp 7) + 1))) (ty := .int) (C := RX6) (T := TX6) (N := 8) hx hb hts nX6_becomes_inX6 tyX6 tyX6_ok nmX6 hown hK hP hD hS 0 rfl rfl 4 (by decide) (hts (.fieldLink RX6 49 "GamefieldModel" "kept" "I") (by decide +kernel)) (fun _ h9 => h9) rfl (by decide +kernel) rfl rfl (Nat.le_of_ble_eq_true rfl) dX6_becomes_93 (fun H locs hP hD hS => ?_)
    have hP : va_P D vwCl [(mo, .inr (8, [.int (nI th), .ref ra, .ref ca, .ref ha, .int (nI ((min kp 7) + 1)), .ref ba, .int (nI hd), .ref wa])), (ra, .inl (kr, 8, .inl (aN rf))), (ca, .inl (kc, 8, .inl (aN (va_up (if kp = 8 then shd cf 8 else cf) (min kp 7) j)))), (ha, .inl (kh, 8, .inl (aN (va_up (if kp = 8 then shd hf 8 else hf) (min kp 7) (rf j)))))] H := hP
    have hD : va_D A [(mo, .inr (8, [.int (nI th), .ref ra, .ref ca, .ref ha, .int (nI ((min kp 7) + 1)), .ref ba, .int (nI hd), .ref wa])), (ra, .inl (kr, 8, .inl (aN rf))), (ca, .inl (kc, 8, .inl (aN (va_up (if kp = 8 then shd cf 8 else cf) (min kp 7) j)))), (ha, .inl (kh, 8, .inl (aN (va_up (if kp = 8 then shd hf 8 else hf) (min kp 7) (rf j)))))] := hD
    refine lv_aload_n hx hb dX6_becomes_96 rfl (lv_at hl 0 rfl) ?_
    refine va_get (D := D) (ci := 8) (v := .ref ra) (C := RX6) (T := TX6) (N := 8) hx hb hts nX6_becomes_inX6 hown hK hP 0 rfl rfl 1 (by decide) (hts (.fieldLink RX6 9 "GamefieldModel" "registers" "[I") (by decide +kernel)) (fun _ h9 => h9) rfl dX6_becomes_97 ?_
    refine lv_iload_n hx hb dX6_becomes_100 rfl (lv_at hl 1 rfl) ?_
    refine lv_iload_n hx hb dX6_becomes_101 rfl (lv_at hl 2 rfl) ?_
    refine z_iast hx hb hK hP hD hS 1 0 rfl rfl (by omega) (by decide) dX6_becomes_102 (fun H locs hP hD hS => ?_)
    have hP : va_P D vwCl [(mo, .inr (8, [.int (nI th), .ref ra, .ref ca, .ref ha, .int (nI ((min kp 7) + 1)), .ref ba, .int (nI hd), .ref wa])), (ra, .inl (kr, 8, .inl (aN (va_up rf j v)))), (ca, .inl (kc, 8, .inl (aN (va_up (if kp = 8 then shd cf 8 else cf) (min kp 7) j)))), (ha, .inl (kh, 8, .inl (aN (va_up (if kp = 8 then shd hf 8 else hf) (min kp 7) (rf j)))))] H := hP
    have hD : va_D A [(mo, .inr (8, [.int (nI th), .ref ra, .ref ca, .ref ha, .int (nI ((min kp 7) + 1)), .ref ba, .int (nI hd), .ref wa])), (ra, .inl (kr, 8, .inl (aN (va_up rf j v)))), (ca, .inl (kc, 8, .inl (aN (va_up (if kp = 8 then shd cf 8 else cf) (min kp 7) j)))), (ha, .inl (kh, 8, .inl (aN (va_up (if kp = 8 then shd hf 8 else hf) (min kp 7) (rf j)))))] := hD
    refine lv_iload_n hx hb dX6_becomes_103 rfl (lv_at hl 2 rfl) ?_
    have hP9 := hP.sub (ws' := [(mo, .inr (8, [.int (nI th), .ref ra, .ref ca, .ref ha, .int (nI ((min kp 7) + 1)), .ref ba, .int (nI hd), .ref wa])), (ra, .inl (kr, 8, .inl (aN (va_up rf j v)))), (ca, .inl (kc, 8, .inl (aN (va_up (if kp = 8 then shd cf 8 else cf) (min kp 7) j)))), (ha, .inl (kh, 8, .inl (aN (va_up (if kp = 8 then shd hf 8 else hf) (min kp 7) (rf j)))))]) [0, 1, 2, 3] rfl
    have hD9 := hD.sub (ws' := [(mo, .inr (8, [.int (nI th), .ref ra, .ref ca, .ref ha, .int (nI ((min kp 7) + 1)), .ref ba, .int (nI hd), .ref wa])), (ra, .inl (kr, 8, .inl (aN (va_up rf j v)))), (ca, .inl (kc, 8, .inl (aN (va_up (if kp = 8 then shd cf 8 else cf) (min kp 7) j)))), (ha, .inl (kh, 8, .inl (aN (va_up (if kp = 8 then shd hf 8 else hf) (min kp 7) (rf j)))))]) [0, 1, 2, 3] (by decide) rfl
    have hK9 := hK.sub (tys' := [(kr, .int), (kc, .int), (kh, .int)]) [0, 1, 2] rfl
    subst hAe
    refine W.widen (k := 0) (n := 0) (Nat.le_of_ble_eq_true rfl) (Nat.le_of_ble_eq_true rfl) ?_
    exact W.iret hx hb hr (fun t ht hW => ⟨⟨_, (), rfl, (rfl), by rw [ht]; exact hP9, va_K.moved hW.alike hK9, hD9⟩, hS.F ht⟩) hS.2.2 dX6_becomes_104
  refine z_cne (tgt := 61) hx hb (by omega) (by omega) dX6_becomes_6 (by decide) (fun c_6 => ?_) (fun c_6 => ?_)
  · have hP : va_P D vwCl [(mo, .inr (8, [.int (nI th), .ref ra, .ref ca, .ref ha, .int (nI (min kp 7)), .ref ba, .int (nI hd), .ref wa])), (ra, .inl (kr, 8, .inl (aN rf))), (ca, .inl (kc, 8, .inl (aN cf))), (ha, .inl (kh, 8, .inl (aN hf)))] s.heap := Eq.mp (congrArg (fun z9 => va_P D vwCl [(mo, .inr (8, [.int (nI th), .ref ra, .ref ca, .ref ha, .int z9, .ref ba, .int (nI hd), .ref wa])), (ra, .inl (kr, 8, .inl (aN rf))), (ca, .inl (kc, 8, .inl (aN cf))), (ha, .inl (kh, 8, .inl (aN hf)))] s.heap) (congrArg nI (show kp = min kp 7 from by rw [show min kp 7 = kp by omega]))) hP
    have hD : va_D A [(mo, .inr (8, [.int (nI th), .ref ra, .ref ca, .ref ha, .int (nI (min kp 7)), .ref ba, .int (nI hd), .ref wa])), (ra, .inl (kr, 8, .inl (aN rf))), (ca, .inl (kc, 8, .inl (aN cf))), (ha, .inl (kh, 8, .inl (aN hf)))] := Eq.mp (congrArg (fun z9 => va_D A [(mo, .inr (8, [.int (nI th), .ref ra, .ref ca, .ref ha, .int z9, .ref ba, .int (nI hd), .ref wa])), (ra, .inl (kr, 8, .inl (aN rf))), (ca, .inl (kc, 8, .inl (aN cf))), (ha, .inl (kh, 8, .inl (aN hf)))]) (congrArg nI (show kp = min kp 7 from by rw [show min kp 7 = kp by omega]))) hD
    have hP : va_P D vwCl [(mo, .inr (8, [.int (nI th), .ref ra, .ref ca, .ref ha, .int (nI (min kp 7)), .ref ba, .int (nI hd), .ref wa])), (ra, .inl (kr, 8, .inl (aN rf))), (ca, .inl (kc, 8, .inl (aN (if kp = 8 then shd cf 8 else cf)))), (ha, .inl (kh, 8, .inl (aN hf)))] s.heap := Eq.mp (congrArg (fun z9 => va_P D vwCl [(mo, .inr (8, [.int (nI th), .ref ra, .ref ca, .ref ha, .int (nI (min kp 7)), .ref ba, .int (nI hd), .ref wa])), (ra, .inl (kr, 8, .inl (aN rf))), (ca, .inl (kc, 8, .inl (aN z9))), (ha, .inl (kh, 8, .inl (aN hf)))] s.heap) ((show cf = if kp = 8 then shd cf 8 else cf from by rw [if_neg c_6]))) hP
    have hD : va_D A [(mo, .inr (8, [.int (nI th), .ref ra, .ref ca, .ref ha, .int (nI (min kp 7)), .ref ba, .int (nI hd), .ref wa])), (ra, .inl (kr, 8, .inl (aN rf))), (ca, .inl (kc, 8, .inl (aN (if kp = 8 then shd cf 8 else cf)))), (ha, .inl (kh, 8, .inl (aN hf)))] := Eq.mp (congrArg (fun z9 => va_D A [(mo, .inr (8, [.int (nI th), .ref ra, .ref ca, .ref ha, .int (nI (min kp 7)), .ref ba, .int (nI hd), .ref wa])), (ra, .inl (kr, 8, .inl (aN rf))), (ca, .inl (kc, 8, .inl (aN z9))), (ha, .inl (kh, 8, .inl (aN hf)))]) ((show cf = if kp = 8 then shd cf 8 else cf from by rw [if_neg c_6]))) hD
    have hP : va_P D vwCl [(mo, .inr (8, [.int (nI th), .ref ra, .ref ca, .ref ha, .int (nI (min kp 7)), .ref ba, .int (nI hd), .ref wa])), (ra, .inl (kr, 8, .inl (aN rf))), (ca, .inl (kc, 8, .inl (aN (if kp = 8 then shd cf 8 else cf)))), (ha, .inl (kh, 8, .inl (aN (if kp = 8 then shd hf 8 else hf))))] s.heap := Eq.mp (congrArg (fun z9 => va_P D vwCl [(mo, .inr (8, [.int (nI th), .ref ra, .ref ca, .ref ha, .int (nI (min kp 7)), .ref ba, .int (nI hd), .ref wa])), (ra, .inl (kr, 8, .inl (aN rf))), (ca, .inl (kc, 8, .inl (aN (if kp = 8 then shd cf 8 else cf)))), (ha, .inl (kh, 8, .inl (aN z9)))] s.heap) ((show hf = if kp = 8 then shd hf 8 else hf from by rw [if_neg c_6]))) hP
    have hD : va_D A [(mo, .inr (8, [.int (nI th), .ref ra, .ref ca, .ref ha, .int (nI (min kp 7)), .ref ba, .int (nI hd), .ref wa])), (ra, .inl (kr, 8, .inl (aN rf))), (ca, .inl (kc, 8, .inl (aN (if kp = 8 then shd cf 8 else cf)))), (ha, .inl (kh, 8, .inl (aN (if kp = 8 then shd hf 8 else hf))))] := Eq.mp (congrArg (fun z9 => va_D A [(mo, .inr (8, [.int (nI th), .ref ra, .ref ca, .ref ha, .int (nI (min kp 7)), .ref ba, .int (nI hd), .ref wa])), (ra, .inl (kr, 8, .inl (aN rf))), (ca, .inl (kc, 8, .inl (aN (if kp = 8 then shd cf 8 else cf)))), (ha, .inl (kh, 8, .inl (aN z9)))]) ((show hf = if kp = 8 then shd hf 8 else hf from by rw [if_neg c_6]))) hD
    exact cut_61   _ _ hP hD hS ls (lv_sub hl [0, 1, 2] rfl)
  · refine lv_iconst (v := nI 1) hx hb dX6_becomes_9 zki_1 ?_
    refine lv_istore_n (lv' := [(3, .int (nI 1)), (0, .ref mo), (1, .int (nI j)), (2, .int (nI v))]) hx hb dX6_becomes_10 rfl hl (by decide) rfl (fun ls hl => ?_)
    have cut_11 : ∀ (nn9 : Nat) (i : Nat) (hi : i ≤ 8) (hi1 : 1 ≤ i) (hn9 : 8 - i < nn9) (H : Heap) (locs : List Loc) (hP : va_P D vwCl [(mo, .inr (8, [.int (nI th), .ref ra, .ref ca, .ref ha, .int (nI kp), .ref ba, .int (nI hd), .ref wa])), (ra, .inl (kr, 8, .inl (aN rf))), (ca, .inl (kc, 8, .inl (aN (shd cf i)))), (ha, .inl (kh, 8, .inl (aN (shd hf i))))] H) (hD : va_D A [(mo, .inr (8, [.int (nI th), .ref ra, .ref ca, .ref ha, .int (nI kp), .ref ba, .int (nI hd), .ref wa])), (ra, .inl (kr, 8, .inl (aN rf))), (ca, .inl (kc, 8, .inl (aN (shd cf i)))), (ha, .inl (kh, 8, .inl (aN (shd hf i))))]) (hS : va_S A s.heap H locs) (ls : Array Slot) (hl : lv_has ls 4 [(0, .ref mo), (1, .int (nI j)), (2, .int (nI v)), (3, .int (nI i))]), W p l e (headSpec wsX6_becomes rm_c_X6_becomes).room s m args below meth c H locs 0 0 (MQ below (q_c_X6_becomes D s.heap.size mo ra ca ha ba wa kp hd kr kc kh th rf cf hf j v) args s 0 0 A) (F0 m 11 ls []) := by
      intro nn9
      induction nn9 with
      | zero => intro i hi hi1 hn9; exact absurd hn9 (Nat.not_lt_zero _)
      | succ nn9 ih_11 =>
        intro i hi hi1 hn9 H locs hP hD hS ls hl
        refine lv_iload_n hx hb dX6_becomes_11 rfl (lv_at hl 3 rfl) ?_
        refine lv_bipush (v := nI 8) hx hb dX6_becomes_12 zkb_8 ?_
        refine z_cge (tgt := 51) hx hb (by omega) (by omega) dX6_becomes_14 (by decide) (fun c_14 => ?_) (fun c_14 => ?_)
        · refine lv_aload_n hx hb dX6_becomes_51 rfl (lv_at hl 0 rfl) ?_
          refine lv_dup hx hb dX6_becomes_52 rfl ?_
          refine va_get (D := D) (ci := 8) (v := .int (nI kp)) (C := RX6) (T := TX6) (N := 8) hx hb hts nX6_becomes_inX6 hown hK hP 0 rfl rfl 4 (by decide) (hts (.fieldLink RX6 49 "GamefieldModel" "kept" "I") (by decide +kernel)) (fun _ h9 => h9) rfl dX6_becomes_53 ?_
          refine lv_iconst (v := nI 1) hx hb dX6_becomes_56 zki_1 ?_
          refine z_sub hx hb (by omega) dX6_becomes_57 ?_
          refine va_put (D := D) (ci := 8) (v := .int (nI (kp - 1))) (ty := .int) (C := RX6) (T := TX6) (N := 8) hx hb hts nX6_becomes_inX6 tyX6 tyX6_ok nmX6 hown hK hP hD hS 0 rfl rfl 4 (by decide) (hts (.fieldLink RX6 49 "GamefieldModel" "kept" "I") (by decide +kernel)) (fun _ h9 => h9) rfl (by decide +kernel) rfl rfl (Nat.le_of_ble_eq_true rfl) dX6_becomes_58 (fun H locs hP hD hS => ?_)
          have hP : va_P D vwCl [(mo, .inr (8, [.int (nI th), .ref ra, .ref ca, .ref ha, .int (nI (kp - 1)), .ref ba, .int (nI hd), .ref wa])), (ra, .inl (kr, 8, .inl (aN rf))), (ca, .inl (kc, 8, .inl (aN (shd cf i)))), (ha, .inl (kh, 8, .inl (aN (shd hf i))))] H := hP
          have hD : va_D A [(mo, .inr (8, [.int (nI th), .ref ra, .ref ca, .ref ha, .int (nI (kp - 1)), .ref ba, .int (nI hd), .ref wa])), (ra, .inl (kr, 8, .inl (aN rf))), (ca, .inl (kc, 8, .inl (aN (shd cf i)))), (ha, .inl (kh, 8, .inl (aN (shd hf i))))] := hD
          have hP : va_P D vwCl [(mo, .inr (8, [.int (nI th), .ref ra, .ref ca, .ref ha, .int (nI (min kp 7)), .ref ba, .int (nI hd), .ref wa])), (ra, .inl (kr, 8, .inl (aN rf))), (ca, .inl (kc, 8, .inl (aN (shd cf i)))), (ha, .inl (kh, 8, .inl (aN (shd hf i))))] H := Eq.mp (congrArg (fun z9 => va_P D vwCl [(mo, .inr (8, [.int (nI th), .ref ra, .ref ca, .ref ha, .int z9, .ref ba, .int (nI hd), .ref wa])), (ra, .inl (kr, 8, .inl (aN rf))), (ca, .inl (kc, 8, .inl (aN (shd cf i)))), (ha, .inl (kh, 8, .inl (aN (shd hf i))))] H) (congrArg nI (show (kp - 1) = min kp 7 from by rw [show min kp 7 = kp - 1 by omega]))) hP
          have hD : va_D A [(mo, .inr (8, [.int (nI th), .ref ra, .ref ca, .ref ha, .int (nI (min kp 7)), .ref ba, .int (nI hd), .ref wa])), (ra, .inl (kr, 8, .inl (aN rf))), (ca, .inl (kc, 8, .inl (aN (shd cf i)))), (ha, .inl (kh, 8, .inl (aN (shd hf i))))] := Eq.mp (congrArg (fun z9 => va_D A [(mo, .inr (8, [.int (nI th), .ref ra, .ref ca, .ref ha, .int z9, .ref ba, .int (nI hd), .ref wa])), (ra, .inl (kr, 8, .inl (aN rf))), (ca, .inl (kc, 8, .inl (aN (shd cf i)))), (ha, .inl (kh, 8, .inl (aN (shd hf i))))]) (congrArg nI (show (kp - 1) = min kp 7 from by rw [show min kp 7 = kp - 1 by omega]))) hD
          have hP : va_P D vwCl [(mo, .inr (8, [.int (nI th), .ref ra, .ref ca, .ref ha, .int (nI (min kp 7)), .ref ba, .int (nI hd), .ref wa])), (ra, .inl (kr, 8, .inl (aN rf))), (ca, .inl (kc, 8, .inl (aN (if kp = 8 then shd cf 8 else cf)))), (ha, .inl (kh, 8, .inl (aN (shd hf i))))] H := Eq.mp (congrArg (fun z9 => va_P D vwCl [(mo, .inr (8, [.int (nI th), .ref ra, .ref ca, .ref ha, .int (nI (min kp 7)), .ref ba, .int (nI hd), .ref wa])), (ra, .inl (kr, 8, .inl (aN rf))), (ca, .inl (kc, 8, .inl (aN z9))), (ha, .inl (kh, 8, .inl (aN (shd hf i))))] H) ((show shd cf i = if kp = 8 then shd cf 8 else cf from by rw [if_pos c_6, show i = 8 by omega]))) hP
          have hD : va_D A [(mo, .inr (8, [.int (nI th), .ref ra, .ref ca, .ref ha, .int (nI (min kp 7)), .ref ba, .int (nI hd), .ref wa])), (ra, .inl (kr, 8, .inl (aN rf))), (ca, .inl (kc, 8, .inl (aN (if kp = 8 then shd cf 8 else cf)))), (ha, .inl (kh, 8, .inl (aN (shd hf i))))] := Eq.mp (congrArg (fun z9 => va_D A [(mo, .inr (8, [.int (nI th), .ref ra, .ref ca, .ref ha, .int (nI (min kp 7)), .ref ba, .int (nI hd), .ref wa])), (ra, .inl (kr, 8, .inl (aN rf))), (ca, .inl (kc, 8, .inl (aN z9))), (ha, .inl (kh, 8, .inl (aN (shd hf i))))]) ((show shd cf i = if kp = 8 then shd cf 8 else cf from by rw [if_pos c_6, show i = 8 by omega]))) hD
          have hP : va_P D vwCl [(mo, .inr (8, [.int (nI th), .ref ra, .ref ca, .ref ha, .int (nI (min kp 7)), .ref ba, .int (nI hd), .ref wa])), (ra, .inl (kr, 8, .inl (aN rf))), (ca, .inl (kc, 8, .inl (aN (if kp = 8 then shd cf 8 else cf)))), (ha, .inl (kh, 8, .inl (aN (if kp = 8 then shd hf 8 else hf))))] H := Eq.mp (congrArg (fun z9 => va_P D vwCl [(mo, .inr (8, [.int (nI th), .ref ra, .ref ca, .ref ha, .int (nI (min kp 7)), .ref ba, .int (nI hd), .ref wa])), (ra, .inl (kr, 8, .inl (aN rf))), (ca, .inl (kc, 8, .inl (aN (if kp = 8 then shd cf 8 else cf)))), (ha, .inl (kh, 8, .inl (aN z9)))] H) ((show shd hf i = if kp = 8 then shd hf 8 else hf from by rw [if_pos c_6, show i = 8 by omega]))) hP
          have hD : va_D A [(mo, .inr (8, [.int (nI th), .ref ra, .ref ca, .ref ha, .int (nI (min kp 7)), .ref ba, .int (nI hd), .ref wa])), (ra, .inl (kr, 8, .inl (aN rf))), (ca, .inl (kc, 8, .inl (aN (if kp = 8 then shd cf 8 else cf)))), (ha, .inl (kh, 8, .inl (aN (if kp = 8 then shd hf 8 else hf))))] := Eq.mp (congrArg (fun z9 => va_D A [(mo, .inr (8, [.int (nI th), .ref ra, .ref ca, .ref ha, .int (nI (min kp 7)), .ref ba, .int (nI hd), .ref wa])), (ra, .inl (kr, 8, .inl (aN rf))), (ca, .inl (kc, 8, .inl (aN (if kp = 8 then shd cf 8 else cf)))), (ha, .inl (kh, 8, .inl (aN z9)))]) ((show shd hf i = if kp = 8 then shd hf 8 else hf from by rw [if_pos c_6, show i = 8 by omega]))) hD
          exact cut_61   H locs hP hD hS ls (lv_sub hl [0, 1, 2] rfl)
        · refine lv_aload_n hx hb dX6_becomes_17 rfl (lv_at hl 0 rfl) ?_
          refine va_get (D := D) (ci := 8) (v := .ref ca) (C := RX6) (T := TX6) (N := 8) hx hb hts nX6_becomes_inX6 hown hK hP 0 rfl rfl 2 (by decide) (hts (.fieldLink RX6 13 "GamefieldModel" "changed" "[I") (by decide +kernel)) (fun _ h9 => h9) rfl dX6_becomes_18 ?_
          refine lv_iload_n hx hb dX6_becomes_21 rfl (lv_at hl 3 rfl) ?_
          refine lv_iconst (v := nI 1) hx hb dX6_becomes_22 zki_1 ?_
          refine z_sub hx hb (by omega) dX6_becomes_23 ?_
          refine lv_aload_n hx hb dX6_becomes_24 rfl (lv_at hl 0 rfl) ?_
          refine va_get (D := D) (ci := 8) (v := .ref ca) (C := RX6) (T := TX6) (N := 8) hx hb hts nX6_becomes_inX6 hown hK hP 0 rfl rfl 2 (by decide) (hts (.fieldLink RX6 13 "GamefieldModel" "changed" "[I") (by decide +kernel)) (fun _ h9 => h9) rfl dX6_becomes_25 ?_
          refine lv_iload_n hx hb dX6_becomes_28 rfl (lv_at hl 3 rfl) ?_
          refine z_iald hx hb hK hP 2 1 rfl rfl (by omega) (by decide) dX6_becomes_29 ?_
          refine z_iast hx hb hK hP hD hS 2 1 rfl rfl (by omega) (by decide) dX6_becomes_30 (fun H locs hP hD hS => ?_)
          have hP : va_P D vwCl [(mo, .inr (8, [.int (nI th), .ref ra, .ref ca, .ref ha, .int (nI kp), .ref ba, .int (nI hd), .ref wa])), (ra, .inl (kr, 8, .inl (aN rf))), (ca, .inl (kc, 8, .inl (aN (va_up (shd cf i) (i - 1) ((shd cf i) i))))), (ha, .inl (kh, 8, .inl (aN (shd hf i))))] H := hP
          have hD : va_D A [(mo, .inr (8, [.int (nI th), .ref ra, .ref ca, .ref ha, .int (nI kp), .ref ba, .int (nI hd), .ref wa])), (ra, .inl (kr, 8, .inl (aN rf))), (ca, .inl (kc, 8, .inl (aN (va_up (shd cf i) (i - 1) ((shd cf i) i))))), (ha, .inl (kh, 8, .inl (aN (shd hf i))))] := hD
          refine lv_aload_n hx hb dX6_becomes_31 rfl (lv_at hl 0 rfl) ?_
          refine va_get (D := D) (ci := 8) (v := .ref ha) (C := RX6) (T := TX6) (N := 8) hx hb hts nX6_becomes_inX6 hown hK hP 0 rfl rfl 3 (by decide) (hts (.fieldLink RX6 16 "GamefieldModel" "had" "[I") (by decide +kernel)) (fun _ h9 => h9) rfl dX6_becomes_32 ?_
          refine lv_iload_n hx hb dX6_becomes_35 rfl (lv_at hl 3 rfl) ?_
          refine lv_iconst (v := nI 1) hx hb dX6_becomes_36 zki_1 ?_
          refine z_sub hx hb (by omega) dX6_becomes_37 ?_
          refine lv_aload_n hx hb dX6_becomes_38 rfl (lv_at hl 0 rfl) ?_
          refine va_get (D := D) (ci := 8) (v := .ref ha) (C := RX6) (T := TX6) (N := 8) hx hb hts nX6_becomes_inX6 hown hK hP 0 rfl rfl 3 (by decide) (hts (.fieldLink RX6 16 "GamefieldModel" "had" "[I") (by decide +kernel)) (fun _ h9 => h9) rfl dX6_becomes_39 ?_
          refine lv_iload_n hx hb dX6_becomes_42 rfl (lv_at hl 3 rfl) ?_
          refine z_iald hx hb hK hP 3 2 rfl rfl (by omega) (by decide) dX6_becomes_43 ?_
          refine z_iast hx hb hK hP hD hS 3 2 rfl rfl (by omega) (by decide) dX6_becomes_44 (fun H locs hP hD hS => ?_)
          have hP : va_P D vwCl [(mo, .inr (8, [.int (nI th), .ref ra, .ref ca, .ref ha, .int (nI kp), .ref ba, .int (nI hd), .ref wa])), (ra, .inl (kr, 8, .inl (aN rf))), (ca, .inl (kc, 8, .inl (aN (va_up (shd cf i) (i - 1) ((shd cf i) i))))), (ha, .inl (kh, 8, .inl (aN (va_up (shd hf i) (i - 1) ((shd hf i) i)))))] H := hP
          have hD : va_D A [(mo, .inr (8, [.int (nI th), .ref ra, .ref ca, .ref ha, .int (nI kp), .ref ba, .int (nI hd), .ref wa])), (ra, .inl (kr, 8, .inl (aN rf))), (ca, .inl (kc, 8, .inl (aN (va_up (shd cf i) (i - 1) ((shd cf i) i))))), (ha, .inl (kh, 8, .inl (aN (va_up (shd hf i) (i - 1) ((shd hf i) i)))))] := hD
          refine lv_iinc (v := (nI (i + 1))) (lv' := [(3, .int (nI (i + 1))), (0, .ref mo), (1, .int (nI j)), (2, .int (nI v))]) hx hb dX6_becomes_45 hl (k := 3) rfl (z_inc i 1) (by decide) rfl (fun ls hl => ?_)
          refine lv_goto (tgt := 11) hx hb dX6_becomes_48 (by decide) ?_
          have hP : va_P D vwCl [(mo, .inr (8, [.int (nI th), .ref ra, .ref ca, .ref ha, .int (nI kp), .ref ba, .int (nI hd), .ref wa])), (ra, .inl (kr, 8, .inl (aN rf))), (ca, .inl (kc, 8, .inl (aN (shd cf (i + 1))))), (ha, .inl (kh, 8, .inl (aN (va_up (shd hf i) (i - 1) ((shd hf i) i)))))] H := Eq.mp (congrArg (fun z9 => va_P D vwCl [(mo, .inr (8, [.int (nI th), .ref ra, .ref ca, .ref ha, .int (nI kp), .ref ba, .int (nI hd), .ref wa])), (ra, .inl (kr, 8, .inl (aN rf))), (ca, .inl (kc, 8, .inl (aN z9))), (ha, .inl (kh, 8, .inl (aN (va_up (shd hf i) (i - 1) ((shd hf i) i)))))] H) ((show va_up (shd cf i) (i - 1) ((shd cf i) i) = shd cf (i + 1) from shd_s _ _ hi1))) hP
          have hD : va_D A [(mo, .inr (8, [.int (nI th), .ref ra, .ref ca, .ref ha, .int (nI kp), .ref ba, .int (nI hd), .ref wa])), (ra, .inl (kr, 8, .inl (aN rf))), (ca, .inl (kc, 8, .inl (aN (shd cf (i + 1))))), (ha, .inl (kh, 8, .inl (aN (va_up (shd hf i) (i - 1) ((shd hf i) i)))))] := Eq.mp (congrArg (fun z9 => va_D A [(mo, .inr (8, [.int (nI th), .ref ra, .ref ca, .ref ha, .int (nI kp), .ref ba, .int (nI hd), .ref wa])), (ra, .inl (kr, 8, .inl (aN rf))), (ca, .inl (kc, 8, .inl (aN z9))), (ha, .inl (kh, 8, .inl (aN (va_up (shd hf i) (i - 1) ((shd hf i) i)))))]) ((show va_up (shd cf i) (i - 1) ((shd cf i) i) = shd cf (i + 1) from shd_s _ _ hi1))) hD
          have hP : va_P D vwCl [(mo, .inr (8, [.int (nI th), .ref ra, .ref ca, .ref ha, .int (nI kp), .ref ba, .int (nI hd), .ref wa])), (ra, .inl (kr, 8, .inl (aN rf))), (ca, .inl (kc, 8, .inl (aN (shd cf (i + 1))))), (ha, .inl (kh, 8, .inl (aN (shd hf (i + 1)))))] H := Eq.mp (congrArg (fun z9 => va_P D vwCl [(mo, .inr (8, [.int (nI th), .ref ra, .ref ca, .ref ha, .int (nI kp), .ref ba, .int (nI hd), .ref wa])), (ra, .inl (kr, 8, .inl (aN rf))), (ca, .inl (kc, 8, .inl (aN (shd cf (i + 1))))), (ha, .inl (kh, 8, .inl (aN z9)))] H) ((show va_up (shd hf i) (i - 1) ((shd hf i) i) = shd hf (i + 1) from shd_s _ _ hi1))) hP
          have hD : va_D A [(mo, .inr (8, [.int (nI th), .ref ra, .ref ca, .ref ha, .int (nI kp), .ref ba, .int (nI hd), .ref wa])), (ra, .inl (kr, 8, .inl (aN rf))), (ca, .inl (kc, 8, .inl (aN (shd cf (i + 1))))), (ha, .inl (kh, 8, .inl (aN (shd hf (i + 1)))))] := Eq.mp (congrArg (fun z9 => va_D A [(mo, .inr (8, [.int (nI th), .ref ra, .ref ca, .ref ha, .int (nI kp), .ref ba, .int (nI hd), .ref wa])), (ra, .inl (kr, 8, .inl (aN rf))), (ca, .inl (kc, 8, .inl (aN (shd cf (i + 1))))), (ha, .inl (kh, 8, .inl (aN z9)))]) ((show va_up (shd hf i) (i - 1) ((shd hf i) i) = shd hf (i + 1) from shd_s _ _ hi1))) hD
          exact ih_11 (i + 1) (by omega) (by omega) (by omega) H locs hP hD hS ls (lv_sub hl [1, 2, 3, 0] rfl)
    have hP : va_P D vwCl [(mo, .inr (8, [.int (nI th), .ref ra, .ref ca, .ref ha, .int (nI kp), .ref ba, .int (nI hd), .ref wa])), (ra, .inl (kr, 8, .inl (aN rf))), (ca, .inl (kc, 8, .inl (aN (shd cf 1)))), (ha, .inl (kh, 8, .inl (aN hf)))] s.heap := Eq.mp (congrArg (fun z9 => va_P D vwCl [(mo, .inr (8, [.int (nI th), .ref ra, .ref ca, .ref ha, .int (nI kp), .ref ba, .int (nI hd), .ref wa])), (ra, .inl (kr, 8, .inl (aN rf))), (ca, .inl (kc, 8, .inl (aN z9))), (ha, .inl (kh, 8, .inl (aN hf)))] s.heap) ((show cf = shd cf 1 from (shd_1 _).symm))) hP
    have hD : va_D A [(mo, .inr (8, [.int (nI th), .ref ra, .ref ca, .ref ha, .int (nI kp), .ref ba, .int (nI hd), .ref wa])), (ra, .inl (kr, 8, .inl (aN rf))), (ca, .inl (kc, 8, .inl (aN (shd cf 1)))), (ha, .inl (kh, 8, .inl (aN hf)))] := Eq.mp (congrArg (fun z9 => va_D A [(mo, .inr (8, [.int (nI th), .ref ra, .ref ca, .ref ha, .int (nI kp), .ref ba, .int (nI hd), .ref wa])), (ra, .inl (kr, 8, .inl (aN rf))), (ca, .inl (kc, 8, .inl (aN z9))), (ha, .inl (kh, 8, .inl (aN hf)))]) ((show cf = shd cf 1 from (shd_1 _).symm))) hD
    have hP : va_P D vwCl [(mo, .inr (8, [.int (nI th), .ref ra, .ref ca, .ref ha, .int (nI kp), .ref ba, .int (nI hd), .ref wa])), (ra, .inl (kr, 8, .inl (aN rf))), (ca, .inl (kc, 8, .inl (aN (shd cf 1)))), (ha, .inl (kh, 8, .inl (aN (shd hf 1))))] s.heap := Eq.mp (congrArg (fun z9 => va_P D vwCl [(mo, .inr (8, [.int (nI th), .ref ra, .ref ca, .ref ha, .int (nI kp), .ref ba, .int (nI hd), .ref wa])), (ra, .inl (kr, 8, .inl (aN rf))), (ca, .inl (kc, 8, .inl (aN (shd cf 1)))), (ha, .inl (kh, 8, .inl (aN z9)))] s.heap) ((show hf = shd hf 1 from (shd_1 _).symm))) hP
    have hD : va_D A [(mo, .inr (8, [.int (nI th), .ref ra, .ref ca, .ref ha, .int (nI kp), .ref ba, .int (nI hd), .ref wa])), (ra, .inl (kr, 8, .inl (aN rf))), (ca, .inl (kc, 8, .inl (aN (shd cf 1)))), (ha, .inl (kh, 8, .inl (aN (shd hf 1))))] := Eq.mp (congrArg (fun z9 => va_D A [(mo, .inr (8, [.int (nI th), .ref ra, .ref ca, .ref ha, .int (nI kp), .ref ba, .int (nI hd), .ref wa])), (ra, .inl (kr, 8, .inl (aN rf))), (ca, .inl (kc, 8, .inl (aN (shd cf 1)))), (ha, .inl (kh, 8, .inl (aN z9)))]) ((show hf = shd hf 1 from (shd_1 _).symm))) hD
    exact cut_11 ((8 - 1) + 1) 1 (by omega) (by omega) (Nat.lt_succ_self _) _ _ hP hD hS ls (lv_sub hl [1, 2, 3, 0] rfl)
abbrev rm_c_X6_at_ok : Room := { frames := 2, cells := 0, slots := 0, locals := 45 }
abbrev q_c_X6_at_ok (D : va_G) (sz : Nat) (mo : Nat) (ra : Nat) (ca : Nat) (ha : Nat) (ba : Nat) (wa : Nat) (kp : Nat) (hd : Nat) (kr : ClassId) (kc : ClassId) (kh : ClassId) (th : Nat) (rf : Nat → Nat) (cf : Nat → Nat) (hf : Nat → Nat) (j : Nat) : Array Value → State → Outcome → State → Prop := va_Qi (fun r (_ : Unit) => r = (nI (rf j))) (fun (_ : Unit) t => va_P D vwCl [(mo, .inr (8, [.int (nI 0), .ref ra, .ref ca, .ref ha, .int (nI kp), .ref ba, .int (nI hd), .ref wa])), (ra, .inl (kr, 8, .inl (aN rf))), (ca, .inl (kc, 8, .inl (aN cf))), (ha, .inl (kh, 8, .inl (aN hf)))] t.heap ∧ va_K D vwCl [(kr, .int), (kc, .int), (kh, .int)] t ∧ va_D (va_A [(mo, .inr (8, [.int (nI th), .ref ra, .ref ca, .ref ha, .int (nI kp), .ref ba, .int (nI hd), .ref wa])), (ra, .inl (kr, 8, .inl (aN rf))), (ca, .inl (kc, 8, .inl (aN cf))), (ha, .inl (kh, 8, .inl (aN hf)))] sz) [(mo, .inr (8, [.int (nI 0), .ref ra, .ref ca, .ref ha, .int (nI kp), .ref ba, .int (nI hd), .ref wa])), (ra, .inl (kr, 8, .inl (aN rf))), (ca, .inl (kc, 8, .inl (aN cf))), (ha, .inl (kh, 8, .inl (aN hf)))]) (va_A [(mo, .inr (8, [.int (nI th), .ref ra, .ref ca, .ref ha, .int (nI kp), .ref ba, .int (nI hd), .ref wa])), (ra, .inl (kr, 8, .inl (aN rf))), (ca, .inl (kc, 8, .inl (aN cf))), (ha, .inl (kh, 8, .inl (aN hf)))] sz)
set_option maxHeartbeats 4000000 in
set_option maxRecDepth 100000 in
theorem c_X6_at_ok (l : Launch) (D : va_G) (sz : Nat) (mo : Nat) (ra : Nat) (ca : Nat) (ha : Nat) (ba : Nat) (wa : Nat) (kp : Nat) (hd : Nat) (kr : ClassId) (kc : ClassId) (kh : ClassId) (th : Nat) (rf : Nat → Nat) (cf : Nat → Nat) (hf : Nat → Nat) (j : Nat) (hrf : ∀ k, k < 8 → rf k < 256) (hkp : kp ≤ 8) (hj : j < 8) : Met l yX6_at wsX6_at rm_c_X6_at_ok (va_Pc [.ref mo, .int (nI j)] (fun U => U.heap.size = sz ∧ va_P D vwCl [(mo, .inr (8, [.int (nI th), .ref ra, .ref ca, .ref ha, .int (nI kp), .ref ba, .int (nI hd), .ref wa])), (ra, .inl (kr, 8, .inl (aN rf))), (ca, .inl (kc, 8, .inl (aN cf))), (ha, .inl (kh, 8, .inl (aN hf)))] U.heap ∧ va_K D vwCl [(kr, .int), (kc, .int), (kh, .int)] U ∧ va_D (fun _ => True) [(mo, .inr (8, [.int (nI th), .ref ra, .ref ca, .ref ha, .int (nI kp), .ref ba, .int (nI hd), .ref wa])), (ra, .inl (kr, 8, .inl (aN rf))), (ca, .inl (kc, 8, .inl (aN cf))), (ha, .inl (kh, 8, .inl (aN hf)))])) (q_c_X6_at_ok D sz mo ra ca ha ba wa kp hd kr kc kh th rf cf hf j) 0 0 (va_A [(mo, .inr (8, [.int (nI th), .ref ra, .ref ca, .ref ha, .int (nI kp), .ref ba, .int (nI hd), .ref wa])), (ra, .inl (kr, 8, .inl (aN rf))), (ca, .inl (kc, 8, .inl (aN cf))), (ha, .inl (kh, 8, .inl (aN hf)))] sz) := by
  refine Met.ofW (cc := cX6_at) (maxL := 2) (ret := (some .int)) (by decide) rfl ?_
  intro p e s m args below meth c s₁ B hml hv
  obtain ⟨hargs, hsz, hP, hK, hD0⟩ := hv
  have hx := B.exec
  have hb := B.bytes
  have hr := B.returns
  have hts := atoms_spec (ws := wsX6_at) B.pre
  have hown : s.vm.findClass RX6 = some m.cls := findClass_of_methodNamed B.named
  have hlocks := B.notSynchronized
  subst hsz
  have hD := hD0.self (sz := s.heap.size)
  generalize hAe : va_A [(mo, .inr (8, [.int (nI th), .ref ra, .ref ca, .ref ha, .int (nI kp), .ref ba, .int (nI hd), .ref wa])), (ra, .inl (kr, 8, .inl (aN rf))), (ca, .inl (kc, 8, .inl (aN cf))), (ha, .inl (kh, 8, .inl (aN hf)))] s.heap.size = A at hD ⊢
  have hA : ∀ q : Nat, s.heap.size ≤ q → A q := fun q h => by rw [← hAe]; exact Or.inr h
  have hS : va_S A s.heap s.heap [] := va_S.rf
  have hl := lv_entry ([.ref mo, .int (nI j)]) (n := 2) (Nat.le_of_ble_eq_true rfl)
  refine W.eq (g2 := F0 m 0 (lg_sl ([.ref mo, .int (nI j)]) ++ List.replicate (2 - (lg_sl ([.ref mo, .int (nI j)])).length) Slot.unset).toArray []) (by rw [hargs]; exact lg_entry_eq _ _ _) ?_
  generalize (lg_sl ([.ref mo, .int (nI j)]) ++ List.replicate (2 - (lg_sl ([.ref mo, .int (nI j)])).length) Slot.unset).toArray = ls at hl ⊢
  have hl : lv_has ls 2 [(0, .ref mo), (1, .int (nI j))] := hl
  refine lv_aload_n hx hb dX6_at_0 rfl (lv_at hl 0 rfl) ?_
  refine lv_iload_n hx hb dX6_at_1 rfl (lv_at hl 1 rfl) ?_
  refine lv_iconst (v := nI 0) hx hb dX6_at_2 zki_0 ?_
  refine lv_iconst (v := nI 0) hx hb dX6_at_3 zki_0 ?_
  have hPc := hP.sub (ws' := [(mo, .inr (8, [.int (nI th), .ref ra, .ref ca, .ref ha, .int (nI kp), .ref ba, .int (nI hd), .ref wa]))]) [0] rfl
  have hDc := hD.sub (ws' := [(mo, .inr (8, [.int (nI th), .ref ra, .ref ca, .ref ha, .int (nI kp), .ref ba, .int (nI hd), .ref wa]))]) [0] (by decide) rfl
  have hKc := hK.sub (tys' := []) [] rfl
  have hFc := va_free (wc := [(mo, .inr (8, [.int (nI th), .ref ra, .ref ca, .ref ha, .int (nI kp), .ref ba, .int (nI hd), .ref wa]))]) hD hS hA [0] rfl
  refine va_calli (va_runV (As := [.int (nI j), .int (nI 0), .int (nI 0)]) (rest := []) ⟨hx, hb, hml, hown, hts⟩ (c_X6_areNone_ok l D s.heap.size mo ra ca ha ba wa kp hd th j 0 0 (by omega) (by omega) (by omega)) (cwV 3 hts gX6_at_X6_areNone rfl rfl rfl (by decide +kernel) ⟨Nat.le_of_ble_eq_true rfl, Nat.le_of_ble_eq_true rfl⟩) ⟨(z_fb2), va_recv hK hP (ci := 8) (q0 := 0) rfl rfl, fun U hU hW => ⟨rfl, by rw [hU], by rw [hU]; exact hPc, va_K.moved hW.alike hKc, hDc.weaken (fun _ _ _ _ => trivial)⟩⟩ rfl rfl hl.1 rfl (lv_room (Nat.le_of_ble_eq_true rfl)) dX6_at_4 ⟨Nat.le_of_ble_eq_true rfl, Nat.le_of_ble_eq_true rfl⟩) hS (fun q _ h => hFc q h) hFc (fun r4 u4 t H locs ht hvm e4 hB hz1 hk1 hS => ?_)
  obtain ⟨hP1, hK1, hD1⟩ := hB
  rw [ht] at hP1
  obtain ⟨hP, hD⟩ := va_join (wr := [(ra, .inl (kr, 8, .inl (aN rf))), (ca, .inl (kc, 8, .inl (aN cf))), (ha, .inl (kh, 8, .inl (aN hf)))]) (w1 := [(mo, .inr (8, [.int (nI 0), .ref ra, .ref ca, .ref ha, .int (nI kp), .ref ba, .int (nI hd), .ref wa]))]) hP hD [0] [1, 2, 3] rfl rfl (by decide) (by decide) hk1 hFc hP1 hD1
  have hP : va_P D vwCl [(ra, .inl (kr, 8, .inl (aN rf))), (ca, .inl (kc, 8, .inl (aN cf))), (ha, .inl (kh, 8, .inl (aN hf))), (mo, .inr (8, [.int (nI 0), .ref ra, .ref ca, .ref ha, .int (nI kp), .ref ba, .int (nI hd), .ref wa]))] H := hP
  have hD : va_D A [(ra, .inl (kr, 8, .inl (aN rf))), (ca, .inl (kc, 8, .inl (aN cf))), (ha, .inl (kh, 8, .inl (aN hf))), (mo, .inr (8, [.int (nI 0), .ref ra, .ref ca, .ref ha, .int (nI kp), .ref ba, .int (nI hd), .ref wa]))] := hD
  refine W.widen (k := 0) (n := 0) (Nat.le_of_ble_eq_true rfl) (Nat.le_of_ble_eq_true rfl) ?_
  subst e4
  have hr_j : rf j < 256 := hrf _ (by omega)
  refine z_beq (tgt := 14) hx hb dX6_at_7 (by decide) (fun c_7 => ?_) (fun c_7 => absurd c_7 (by decide))
  refine lv_aload_n hx hb dX6_at_14 rfl (lv_at hl 0 rfl) ?_
  refine va_get (D := D) (ci := 8) (v := .ref ra) (C := RX6) (T := TX6) (N := 8) hx hb hts nX6_at_inX6 hown hK hP 3 rfl rfl 1 (by decide) (hts (.fieldLink RX6 9 "GamefieldModel" "registers" "[I") (by decide +kernel)) (fun _ h9 => h9) rfl dX6_at_15 ?_
  refine lv_iload_n hx hb dX6_at_18 rfl (lv_at hl 1 rfl) ?_
  refine z_iald hx hb hK hP 0 0 rfl rfl (by omega) (by decide) dX6_at_19 ?_
  have hP9 := hP.sub (ws' := [(mo, .inr (8, [.int (nI 0), .ref ra, .ref ca, .ref ha, .int (nI kp), .ref ba, .int (nI hd), .ref wa])), (ra, .inl (kr, 8, .inl (aN rf))), (ca, .inl (kc, 8, .inl (aN cf))), (ha, .inl (kh, 8, .inl (aN hf)))]) [3, 0, 1, 2] rfl
  have hD9 := hD.sub (ws' := [(mo, .inr (8, [.int (nI 0), .ref ra, .ref ca, .ref ha, .int (nI kp), .ref ba, .int (nI hd), .ref wa])), (ra, .inl (kr, 8, .inl (aN rf))), (ca, .inl (kc, 8, .inl (aN cf))), (ha, .inl (kh, 8, .inl (aN hf)))]) [3, 0, 1, 2] (by decide) rfl
  have hK9 := hK.sub (tys' := [(kr, .int), (kc, .int), (kh, .int)]) [0, 1, 2] rfl
  subst hAe
  refine W.widen (k := 0) (n := 0) (Nat.le_of_ble_eq_true rfl) (Nat.le_of_ble_eq_true rfl) ?_
  exact W.iret hx hb hr (fun t ht hW => ⟨⟨_, (), rfl, (rfl), by rw [ht]; exact hP9, va_K.moved hW.alike hK9, hD9⟩, hS.F ht⟩) hS.2.2 dX6_at_20
abbrev rm_c_X6_at_no : Room := { frames := 2, cells := 0, slots := 0, locals := 45 }
abbrev q_c_X6_at_no (D : va_G) (sz : Nat) (mo : Nat) (ra : Nat) (ca : Nat) (ha : Nat) (ba : Nat) (wa : Nat) (kp : Nat) (hd : Nat) (kr : ClassId) (kc : ClassId) (kh : ClassId) (th : Nat) (rf : Nat → Nat) (cf : Nat → Nat) (hf : Nat → Nat) (x0 : Int32) : Array Value → State → Outcome → State → Prop := va_Qi (fun r (_ : Unit) => r = (nI 0)) (fun (_ : Unit) t => va_P D vwCl [(mo, .inr (8, [.int (nI 1), .ref ra, .ref ca, .ref ha, .int (nI kp), .ref ba, .int (nI hd), .ref wa])), (ra, .inl (kr, 8, .inl (aN rf))), (ca, .inl (kc, 8, .inl (aN cf))), (ha, .inl (kh, 8, .inl (aN hf)))] t.heap ∧ va_K D vwCl [(kr, .int), (kc, .int), (kh, .int)] t ∧ va_D (va_A [(mo, .inr (8, [.int (nI th), .ref ra, .ref ca, .ref ha, .int (nI kp), .ref ba, .int (nI hd), .ref wa])), (ra, .inl (kr, 8, .inl (aN rf))), (ca, .inl (kc, 8, .inl (aN cf))), (ha, .inl (kh, 8, .inl (aN hf)))] sz) [(mo, .inr (8, [.int (nI 1), .ref ra, .ref ca, .ref ha, .int (nI kp), .ref ba, .int (nI hd), .ref wa])), (ra, .inl (kr, 8, .inl (aN rf))), (ca, .inl (kc, 8, .inl (aN cf))), (ha, .inl (kh, 8, .inl (aN hf)))]) (va_A [(mo, .inr (8, [.int (nI th), .ref ra, .ref ca, .ref ha, .int (nI kp), .ref ba, .int (nI hd), .ref wa])), (ra, .inl (kr, 8, .inl (aN rf))), (ca, .inl (kc, 8, .inl (aN cf))), (ha, .inl (kh, 8, .inl (aN hf)))] sz)
set_option maxHeartbeats 4000000 in
set_option maxRecDepth 100000 in
theorem c_X6_at_no (l : Launch) (D : va_G) (sz : Nat) (mo : Nat) (ra : Nat) (ca : Nat) (ha : Nat) (ba : Nat) (wa : Nat) (kp : Nat) (hd : Nat) (kr : ClassId) (kc : ClassId) (kh : ClassId) (th : Nat) (rf : Nat → Nat) (cf : Nat → Nat) (hf : Nat → Nat) (x0 : Int32) (hrf : ∀ k, k < 8 → rf k < 256) (hkp : kp ≤ 8) (hno : inN 8 x0 = false) : Met l yX6_at wsX6_at rm_c_X6_at_no (va_Pc [.ref mo, .int x0] (fun U => U.heap.size = sz ∧ va_P D vwCl [(mo, .inr (8, [.int (nI th), .ref ra, .ref ca, .ref ha, .int (nI kp), .ref ba, .int (nI hd), .ref wa])), (ra, .inl (kr, 8, .inl (aN rf))), (ca, .inl (kc, 8, .inl (aN cf))), (ha, .inl (kh, 8, .inl (aN hf)))] U.heap ∧ va_K D vwCl [(kr, .int), (kc, .int), (kh, .int)] U ∧ va_D (fun _ => True) [(mo, .inr (8, [.int (nI th), .ref ra, .ref ca, .ref ha, .int (nI kp), .ref ba, .int (nI hd), .ref wa])), (ra, .inl (kr, 8, .inl (aN rf))), (ca, .inl (kc, 8, .inl (aN cf))), (ha, .inl (kh, 8, .inl (aN hf)))])) (q_c_X6_at_no D sz mo ra ca ha ba wa kp hd kr kc kh th rf cf hf x0) 0 0 (va_A [(mo, .inr (8, [.int (nI th), .ref ra, .ref ca, .ref ha, .int (nI kp), .ref ba, .int (nI hd), .ref wa])), (ra, .inl (kr, 8, .inl (aN rf))), (ca, .inl (kc, 8, .inl (aN cf))), (ha, .inl (kh, 8, .inl (aN hf)))] sz) := by
  refine Met.ofW (cc := cX6_at) (maxL := 2) (ret := (some .int)) (by decide) rfl ?_
  intro p e s m args below meth c s₁ B hml hv
  obtain ⟨hargs, hsz, hP, hK, hD0⟩ := hv
  have hx := B.exec
  have hb := B.bytes
  have hr := B.returns
  have hts := atoms_spec (ws := wsX6_at) B.pre
  have hown : s.vm.findClass RX6 = some m.cls := findClass_of_methodNamed B.named
  have hlocks := B.notSynchronized
  subst hsz
  have hD := hD0.self (sz := s.heap.size)
  generalize hAe : va_A [(mo, .inr (8, [.int (nI th), .ref ra, .ref ca, .ref ha, .int (nI kp), .ref ba, .int (nI hd), .ref wa])), (ra, .inl (kr, 8, .inl (aN rf))), (ca, .inl (kc, 8, .inl (aN cf))), (ha, .inl (kh, 8, .inl (aN hf)))] s.heap.size = A at hD ⊢
  have hA : ∀ q : Nat, s.heap.size ≤ q → A q := fun q h => by rw [← hAe]; exact Or.inr h
  have hS : va_S A s.heap s.heap [] := va_S.rf
  have hl := lv_entry ([.ref mo, .int x0]) (n := 2) (Nat.le_of_ble_eq_true rfl)
  refine W.eq (g2 := F0 m 0 (lg_sl ([.ref mo, .int x0]) ++ List.replicate (2 - (lg_sl ([.ref mo, .int x0])).length) Slot.unset).toArray []) (by rw [hargs]; exact lg_entry_eq _ _ _) ?_
  generalize (lg_sl ([.ref mo, .int x0]) ++ List.replicate (2 - (lg_sl ([.ref mo, .int x0])).length) Slot.unset).toArray = ls at hl ⊢
  have hl : lv_has ls 2 [(0, .ref mo), (1, .int x0)] := hl
  refine lv_aload_n hx hb dX6_at_0 rfl (lv_at hl 0 rfl) ?_
  refine lv_iload_n hx hb dX6_at_1 rfl (lv_at hl 1 rfl) ?_
  refine lv_iconst (v := nI 0) hx hb dX6_at_2 zki_0 ?_
  refine lv_iconst (v := nI 0) hx hb dX6_at_3 zki_0 ?_
  have hPc := hP.sub (ws' := [(mo, .inr (8, [.int (nI th), .ref ra, .ref ca, .ref ha, .int (nI kp), .ref ba, .int (nI hd), .ref wa]))]) [0] rfl
  have hDc := hD.sub (ws' := [(mo, .inr (8, [.int (nI th), .ref ra, .ref ca, .ref ha, .int (nI kp), .ref ba, .int (nI hd), .ref wa]))]) [0] (by decide) rfl
  have hKc := hK.sub (tys' := []) [] rfl
  have hFc := va_free (wc := [(mo, .inr (8, [.int (nI th), .ref ra, .ref ca, .ref ha, .int (nI kp), .ref ba, .int (nI hd), .ref wa]))]) hD hS hA [0] rfl
  refine va_calli (va_runV (As := [.int x0, .int (nI 0), .int (nI 0)]) (rest := []) ⟨hx, hb, hml, hown, hts⟩ (c_X6_areNone_no l D s.heap.size mo ra ca ha ba wa kp hd th x0 (nI 0) (nI 0) (by rw [ok3_1]; exact hno)) (cwV 3 hts gX6_at_X6_areNone rfl rfl rfl (by decide +kernel) ⟨Nat.le_of_ble_eq_true rfl, Nat.le_of_ble_eq_true rfl⟩) ⟨(z_fb2), va_recv hK hP (ci := 8) (q0 := 0) rfl rfl, fun U hU hW => ⟨rfl, by rw [hU], by rw [hU]; exact hPc, va_K.moved hW.alike hKc, hDc.weaken (fun _ _ _ _ => trivial)⟩⟩ rfl rfl hl.1 rfl (lv_room (Nat.le_of_ble_eq_true rfl)) dX6_at_4 ⟨Nat.le_of_ble_eq_true rfl, Nat.le_of_ble_eq_true rfl⟩) hS (fun q _ h => hFc q h) hFc (fun r4 u4 t H locs ht hvm e4 hB hz1 hk1 hS => ?_)
  obtain ⟨hP1, hK1, hD1⟩ := hB
  rw [ht] at hP1
  obtain ⟨hP, hD⟩ := va_join (wr := [(ra, .inl (kr, 8, .inl (aN rf))), (ca, .inl (kc, 8, .inl (aN cf))), (ha, .inl (kh, 8, .inl (aN hf)))]) (w1 := [(mo, .inr (8, [.int (nI 1), .ref ra, .ref ca, .ref ha, .int (nI kp), .ref ba, .int (nI hd), .ref wa]))]) hP hD [0] [1, 2, 3] rfl rfl (by decide) (by decide) hk1 hFc hP1 hD1
  have hP : va_P D vwCl [(ra, .inl (kr, 8, .inl (aN rf))), (ca, .inl (kc, 8, .inl (aN cf))), (ha, .inl (kh, 8, .inl (aN hf))), (mo, .inr (8, [.int (nI 1), .ref ra, .ref ca, .ref ha, .int (nI kp), .ref ba, .int (nI hd), .ref wa]))] H := hP
  have hD : va_D A [(ra, .inl (kr, 8, .inl (aN rf))), (ca, .inl (kc, 8, .inl (aN cf))), (ha, .inl (kh, 8, .inl (aN hf))), (mo, .inr (8, [.int (nI 1), .ref ra, .ref ca, .ref ha, .int (nI kp), .ref ba, .int (nI hd), .ref wa]))] := hD
  refine W.widen (k := 0) (n := 0) (Nat.le_of_ble_eq_true rfl) (Nat.le_of_ble_eq_true rfl) ?_
  subst e4
  refine z_beq (tgt := 14) hx hb dX6_at_7 (by decide) (fun c_7 => absurd c_7 (by decide)) (fun c_7 => ?_)
  refine lv_iconst (v := nI 0) hx hb dX6_at_10 zki_0 ?_
  refine lv_goto (tgt := 20) hx hb dX6_at_11 (by decide) ?_
  have hP9 := hP.sub (ws' := [(mo, .inr (8, [.int (nI 1), .ref ra, .ref ca, .ref ha, .int (nI kp), .ref ba, .int (nI hd), .ref wa])), (ra, .inl (kr, 8, .inl (aN rf))), (ca, .inl (kc, 8, .inl (aN cf))), (ha, .inl (kh, 8, .inl (aN hf)))]) [3, 0, 1, 2] rfl
  have hD9 := hD.sub (ws' := [(mo, .inr (8, [.int (nI 1), .ref ra, .ref ca, .ref ha, .int (nI kp), .ref ba, .int (nI hd), .ref wa])), (ra, .inl (kr, 8, .inl (aN rf))), (ca, .inl (kc, 8, .inl (aN cf))), (ha, .inl (kh, 8, .inl (aN hf)))]) [3, 0, 1, 2] (by decide) rfl
  have hK9 := hK.sub (tys' := [(kr, .int), (kc, .int), (kh, .int)]) [0, 1, 2] rfl
  subst hAe
  refine W.widen (k := 0) (n := 0) (Nat.le_of_ble_eq_true rfl) (Nat.le_of_ble_eq_true rfl) ?_
  exact W.iret hx hb hr (fun t ht hW => ⟨⟨_, (), rfl, (rfl), by rw [ht]; exact hP9, va_K.moved hW.alike hK9, hD9⟩, hS.F ht⟩) hS.2.2 dX6_at_20
abbrev rm_c_X6_trace_ok : Room := { frames := 5, cells := 0, slots := 0, locals := 139 }
abbrev q_c_X6_trace_ok (D : va_G) (sz : Nat) (mo : Nat) (ra : Nat) (ca : Nat) (ha : Nat) (ba : Nat) (wa : Nat) (kp : Nat) (hd : Nat) (kr : ClassId) (kc : ClassId) (kh : ClassId) (th : Nat) (rf : Nat → Nat) (cf : Nat → Nat) (hf : Nat → Nat) (j : Nat) : Array Value → State → Outcome → State → Prop := va_Qi (fun r (_ : Unit) => r = (nI (tr (rf j)))) (fun (_ : Unit) t => va_P D vwCl [(mo, .inr (8, [.int (nI 0), .ref ra, .ref ca, .ref ha, .int (nI kp), .ref ba, .int (nI hd), .ref wa])), (ra, .inl (kr, 8, .inl (aN rf))), (ca, .inl (kc, 8, .inl (aN cf))), (ha, .inl (kh, 8, .inl (aN hf)))] t.heap ∧ va_K D vwCl [(kr, .int), (kc, .int), (kh, .int)] t ∧ va_D (va_A [(mo, .inr (8, [.int (nI th), .ref ra, .ref ca, .ref ha, .int (nI kp), .ref ba, .int (nI hd), .ref wa])), (ra, .inl (kr, 8, .inl (aN rf))), (ca, .inl (kc, 8, .inl (aN cf))), (ha, .inl (kh, 8, .inl (aN hf)))] sz) [(mo, .inr (8, [.int (nI 0), .ref ra, .ref ca, .ref ha, .int (nI kp), .ref ba, .int (nI hd), .ref wa])), (ra, .inl (kr, 8, .inl (aN rf))), (ca, .inl (kc, 8, .inl (aN cf))), (ha, .inl (kh, 8, .inl (aN hf)))]) (va_A [(mo, .inr (8, [.int (nI th), .ref ra, .ref ca, .ref ha, .int (nI kp), .ref ba, .int (nI hd), .ref wa])), (ra, .inl (kr, 8, .inl (aN rf))), (ca, .inl (kc, 8, .inl (aN cf))), (ha, .inl (kh, 8, .inl (aN hf)))] sz)
set_option maxHeartbeats 4000000 in
set_option maxRecDepth 100000 in
theorem c_X6_trace_ok (l : Launch) (D : va_G) (sz : Nat) (mo : Nat) (ra : Nat) (ca : Nat) (ha : Nat) (ba : Nat) (wa : Nat) (kp : Nat) (hd : Nat) (kr : ClassId) (kc : ClassId) (kh : ClassId) (th : Nat) (rf : Nat → Nat) (cf : Nat → Nat) (hf : Nat → Nat) (j : Nat) (hrf : ∀ k, k < 8 → rf k < 256) (hkp : kp ≤ 8) (hj : j < 8) : Met l yX6_trace wsX6_trace rm_c_X6_trace_ok (va_Pc [.ref mo, .int (nI j)] (fun U => U.heap.size = sz ∧ va_P D vwCl [(mo, .inr (8, [.int (nI th), .ref ra, .ref ca, .ref ha, .int (nI kp), .ref ba, .int (nI hd), .ref wa])), (ra, .inl (kr, 8, .inl (aN rf))), (ca, .inl (kc, 8, .inl (aN cf))), (ha, .inl (kh, 8, .inl (aN hf)))] U.heap ∧ va_K D vwCl [(kr, .int), (kc, .int), (kh, .int)] U ∧ va_D (fun _ => True) [(mo, .inr (8, [.int (nI th), .ref ra, .ref ca, .ref ha, .int (nI kp), .ref ba, .int (nI hd), .ref wa])), (ra, .inl (kr, 8, .inl (aN rf))), (ca, .inl (kc, 8, .inl (aN cf))), (ha, .inl (kh, 8, .inl (aN hf)))])) (q_c_X6_trace_ok D sz mo ra ca ha ba wa kp hd kr kc kh th rf cf hf j) 0 0 (va_A [(mo, .inr (8, [.int (nI th), .ref ra, .ref ca, .ref ha, .int (nI kp), .ref ba, .int (nI hd), .ref wa])), (ra, .inl (kr, 8, .inl (aN rf))), (ca, .inl (kc, 8, .inl (aN cf))), (ha, .inl (kh, 8, .inl (aN hf)))] sz) := by
  refine Met.ofW (cc := cX6_trace) (maxL := 2) (ret := (some .int)) (by decide) rfl ?_
  intro p e s m args below meth c s₁ B hml hv
  obtain ⟨hargs, hsz, hP, hK, hD0⟩ := hv
  have hx := B.exec
  have hb := B.bytes
  have hr := B.returns
  have hts := atoms_spec (ws := wsX6_trace) B.pre
  have hown : s.vm.findClass RX6 = some m.cls := findClass_of_methodNamed B.named
  have hlocks := B.notSynchronized
  subst hsz
  have hD := hD0.self (sz := s.heap.size)
  generalize hAe : va_A [(mo, .inr (8, [.int (nI th), .ref ra, .ref ca, .ref ha, .int (nI kp), .ref ba, .int (nI hd), .ref wa])), (ra, .inl (kr, 8, .inl (aN rf))), (ca, .inl (kc, 8, .inl (aN cf))), (ha, .inl (kh, 8, .inl (aN hf)))] s.heap.size = A at hD ⊢
  have hA : ∀ q : Nat, s.heap.size ≤ q → A q := fun q h => by rw [← hAe]; exact Or.inr h
  have hS : va_S A s.heap s.heap [] := va_S.rf
  have hl := lv_entry ([.ref mo, .int (nI j)]) (n := 2) (Nat.le_of_ble_eq_true rfl)
  refine W.eq (g2 := F0 m 0 (lg_sl ([.ref mo, .int (nI j)]) ++ List.replicate (2 - (lg_sl ([.ref mo, .int (nI j)])).length) Slot.unset).toArray []) (by rw [hargs]; exact lg_entry_eq _ _ _) ?_
  generalize (lg_sl ([.ref mo, .int (nI j)]) ++ List.replicate (2 - (lg_sl ([.ref mo, .int (nI j)])).length) Slot.unset).toArray = ls at hl ⊢
  have hl : lv_has ls 2 [(0, .ref mo), (1, .int (nI j))] := hl
  refine lv_aload_n hx hb dX6_trace_0 rfl (lv_at hl 0 rfl) ?_
  refine lv_iload_n hx hb dX6_trace_1 rfl (lv_at hl 1 rfl) ?_
  refine lv_iconst (v := nI 0) hx hb dX6_trace_2 zki_0 ?_
  refine lv_iconst (v := nI 0) hx hb dX6_trace_3 zki_0 ?_
  have hPc := hP.sub (ws' := [(mo, .inr (8, [.int (nI th), .ref ra, .ref ca, .ref ha, .int (nI kp), .ref ba, .int (nI hd), .ref wa]))]) [0] rfl
  have hDc := hD.sub (ws' := [(mo, .inr (8, [.int (nI th), .ref ra, .ref ca, .ref ha, .int (nI kp), .ref ba, .int (nI hd), .ref wa]))]) [0] (by decide) rfl
  have hKc := hK.sub (tys' := []) [] rfl
  have hFc := va_free (wc := [(mo, .inr (8, [.int (nI th), .ref ra, .ref ca, .ref ha, .int (nI kp), .ref ba, .int (nI hd), .ref wa]))]) hD hS hA [0] rfl
  refine va_calli (va_runV (As := [.int (nI j), .int (nI 0), .int (nI 0)]) (rest := []) ⟨hx, hb, hml, hown, hts⟩ (c_X6_areNone_ok l D s.heap.size mo ra ca ha ba wa kp hd th j 0 0 (by omega) (by omega) (by omega)) (cwV 3 hts gX6_trace_X6_areNone rfl rfl rfl (by decide +kernel) ⟨Nat.le_of_ble_eq_true rfl, Nat.le_of_ble_eq_true rfl⟩) ⟨(z_fb2), va_recv hK hP (ci := 8) (q0 := 0) rfl rfl, fun U hU hW => ⟨rfl, by rw [hU], by rw [hU]; exact hPc, va_K.moved hW.alike hKc, hDc.weaken (fun _ _ _ _ => trivial)⟩⟩ rfl rfl hl.1 rfl (lv_room (Nat.le_of_ble_eq_true rfl)) dX6_trace_4 ⟨Nat.le_of_ble_eq_true rfl, Nat.le_of_ble_eq_true rfl⟩) hS (fun q _ h => hFc q h) hFc (fun r4 u4 t H locs ht hvm e4 hB hz1 hk1 hS => ?_)
  obtain ⟨hP1, hK1, hD1⟩ := hB
  rw [ht] at hP1
  obtain ⟨hP, hD⟩ := va_join (wr := [(ra, .inl (kr, 8, .inl (aN rf))), (ca, .inl (kc, 8, .inl (aN cf))), (ha, .inl (kh, 8, .inl (aN hf)))]) (w1 := [(mo, .inr (8, [.int (nI 0), .ref ra, .ref ca, .ref ha, .int (nI kp), .ref ba, .int (nI hd), .ref wa]))]) hP hD [0] [1, 2, 3] rfl rfl (by decide) (by decide) hk1 hFc hP1 hD1
  have hP : va_P D vwCl [(ra, .inl (kr, 8, .inl (aN rf))), (ca, .inl (kc, 8, .inl (aN cf))), (ha, .inl (kh, 8, .inl (aN hf))), (mo, .inr (8, [.int (nI 0), .ref ra, .ref ca, .ref ha, .int (nI kp), .ref ba, .int (nI hd), .ref wa]))] H := hP
  have hD : va_D A [(ra, .inl (kr, 8, .inl (aN rf))), (ca, .inl (kc, 8, .inl (aN cf))), (ha, .inl (kh, 8, .inl (aN hf))), (mo, .inr (8, [.int (nI 0), .ref ra, .ref ca, .ref ha, .int (nI kp), .ref ba, .int (nI hd), .ref wa]))] := hD
  refine W.widen (k := 0) (n := 0) (Nat.le_of_ble_eq_true rfl) (Nat.le_of_ble_eq_true rfl) ?_
  subst e4
  have hr_j : rf j < 256 := hrf _ (by omega)
  refine z_beq (tgt := 14) hx hb dX6_trace_7 (by decide) (fun c_7 => ?_) (fun c_7 => absurd c_7 (by decide))
  refine lv_aload_n hx hb dX6_trace_14 rfl (lv_at hl 0 rfl) ?_
  refine va_get (D := D) (ci := 8) (v := .ref ra) (C := RX6) (T := TX6) (N := 8) hx hb hts nX6_trace_inX6 hown hK hP 3 rfl rfl 1 (by decide) (hts (.fieldLink RX6 9 "GamefieldModel" "registers" "[I") (by decide +kernel)) (fun _ h9 => h9) rfl dX6_trace_15 ?_
  refine lv_iload_n hx hb dX6_trace_18 rfl (lv_at hl 1 rfl) ?_
  refine z_iald hx hb hK hP 0 0 rfl rfl (by omega) (by decide) dX6_trace_19 ?_
  refine z_ci (va_runS (As := [.int (nI (rf j))]) (rest := []) ⟨hx, hb, hml, hown, hts⟩ (c_X6_traceOf l D (rf j) (by omega)) (va_cwS 1 hts gX6_trace_X6_traceOf rfl rfl rfl (by decide +kernel) ⟨Nat.le_of_ble_eq_true rfl, Nat.le_of_ble_eq_true rfl⟩) ⟨z_fb0, fun U hU hW => ⟨rfl, trivial⟩⟩ rfl rfl hl.1 rfl (lv_room (Nat.le_of_ble_eq_true rfl)) dX6_trace_20 ⟨Nat.le_of_ble_eq_true rfl, Nat.le_of_ble_eq_true rfl⟩) (fun r20 e20 => ?_)
  subst e20
  have hn20 : tr (rf j) < 256 := tr_lt (by omega)
  have hP9 := hP.sub (ws' := [(mo, .inr (8, [.int (nI 0), .ref ra, .ref ca, .ref ha, .int (nI kp), .ref ba, .int (nI hd), .ref wa])), (ra, .inl (kr, 8, .inl (aN rf))), (ca, .inl (kc, 8, .inl (aN cf))), (ha, .inl (kh, 8, .inl (aN hf)))]) [3, 0, 1, 2] rfl
  have hD9 := hD.sub (ws' := [(mo, .inr (8, [.int (nI 0), .ref ra, .ref ca, .ref ha, .int (nI kp), .ref ba, .int (nI hd), .ref wa])), (ra, .inl (kr, 8, .inl (aN rf))), (ca, .inl (kc, 8, .inl (aN cf))), (ha, .inl (kh, 8, .inl (aN hf)))]) [3, 0, 1, 2] (by decide) rfl
  have hK9 := hK.sub (tys' := [(kr, .int), (kc, .int), (kh, .int)]) [0, 1, 2] rfl
  subst hAe
  refine W.widen (k := 0) (n := 0) (Nat.le_of_ble_eq_true rfl) (Nat.le_of_ble_eq_true rfl) ?_
  exact W.iret hx hb hr (fun t ht hW => ⟨⟨_, (), rfl, (rfl), by rw [ht]; exact hP9, va_K.moved hW.alike hK9, hD9⟩, hS.F ht⟩) hS.2.2 dX6_trace_23
abbrev rm_c_X6_trace_no : Room := { frames := 2, cells := 0, slots := 0, locals := 45 }
abbrev q_c_X6_trace_no (D : va_G) (sz : Nat) (mo : Nat) (ra : Nat) (ca : Nat) (ha : Nat) (ba : Nat) (wa : Nat) (kp : Nat) (hd : Nat) (kr : ClassId) (kc : ClassId) (kh : ClassId) (th : Nat) (rf : Nat → Nat) (cf : Nat → Nat) (hf : Nat → Nat) (x0 : Int32) : Array Value → State → Outcome → State → Prop := va_Qi (fun r (_ : Unit) => r = (nI 0)) (fun (_ : Unit) t => va_P D vwCl [(mo, .inr (8, [.int (nI 1), .ref ra, .ref ca, .ref ha, .int (nI kp), .ref ba, .int (nI hd), .ref wa])), (ra, .inl (kr, 8, .inl (aN rf))), (ca, .inl (kc, 8, .inl (aN cf))), (ha, .inl (kh, 8, .inl (aN hf)))] t.heap ∧ va_K D vwCl [(kr, .int), (kc, .int), (kh, .int)] t ∧ va_D (va_A [(mo, .inr (8, [.int (nI th), .ref ra, .ref ca, .ref ha, .int (nI kp), .ref ba, .int (nI hd), .ref wa])), (ra, .inl (kr, 8, .inl (aN rf))), (ca, .inl (kc, 8, .inl (aN cf))), (ha, .inl (kh, 8, .inl (aN hf)))] sz) [(mo, .inr (8, [.int (nI 1), .ref ra, .ref ca, .ref ha, .int (nI kp), .ref ba, .int (nI hd), .ref wa])), (ra, .inl (kr, 8, .inl (aN rf))), (ca, .inl (kc, 8, .inl (aN cf))), (ha, .inl (kh, 8, .inl (aN hf)))]) (va_A [(mo, .inr (8, [.int (nI th), .ref ra, .ref ca, .ref ha, .int (nI kp), .ref ba, .int (nI hd), .ref wa])), (ra, .inl (kr, 8, .inl (aN rf))), (ca, .inl (kc, 8, .inl (aN cf))), (ha, .inl (kh, 8, .inl (aN hf)))] sz)
set_option maxHeartbeats 4000000 in
set_option maxRecDepth 100000 in
theorem c_X6_trace_no (l : Launch) (D : va_G) (sz : Nat) (mo : Nat) (ra : Nat) (ca : Nat) (ha : Nat) (ba : Nat) (wa : Nat) (kp : Nat) (hd : Nat) (kr : ClassId) (kc : ClassId) (kh : ClassId) (th : Nat) (rf : Nat → Nat) (cf : Nat → Nat) (hf : Nat → Nat) (x0 : Int32) (hrf : ∀ k, k < 8 → rf k < 256) (hkp : kp ≤ 8) (hno : inN 8 x0 = false) : Met l yX6_trace wsX6_trace rm_c_X6_trace_no (va_Pc [.ref mo, .int x0] (fun U => U.heap.size = sz ∧ va_P D vwCl [(mo, .inr (8, [.int (nI th), .ref ra, .ref ca, .ref ha, .int (nI kp), .ref ba, .int (nI hd), .ref wa])), (ra, .inl (kr, 8, .inl (aN rf))), (ca, .inl (kc, 8, .inl (aN cf))), (ha, .inl (kh, 8, .inl (aN hf)))] U.heap ∧ va_K D vwCl [(kr, .int), (kc, .int), (kh, .int)] U ∧ va_D (fun _ => True) [(mo, .inr (8, [.int (nI th), .ref ra, .ref ca, .ref ha, .int (nI kp), .ref ba, .int (nI hd), .ref wa])), (ra, .inl (kr, 8, .inl (aN rf))), (ca, .inl (kc, 8, .inl (aN cf))), (ha, .inl (kh, 8, .inl (aN hf)))])) (q_c_X6_trace_no D sz mo ra ca ha ba wa kp hd kr kc kh th rf cf hf x0) 0 0 (va_A [(mo, .inr (8, [.int (nI th), .ref ra, .ref ca, .ref ha, .int (nI kp), .ref ba, .int (nI hd), .ref wa])), (ra, .inl (kr, 8, .inl (aN rf))), (ca, .inl (kc, 8, .inl (aN cf))), (ha, .inl (kh, 8, .inl (aN hf)))] sz) := by
  refine Met.ofW (cc := cX6_trace) (maxL := 2) (ret := (some .int)) (by decide) rfl ?_
  intro p e s m args below meth c s₁ B hml hv
  obtain ⟨hargs, hsz, hP, hK, hD0⟩ := hv
  have hx := B.exec
  have hb := B.bytes
  have hr := B.returns
  have hts := atoms_spec (ws := wsX6_trace) B.pre
  have hown : s.vm.findClass RX6 = some m.cls := findClass_of_methodNamed B.named
  have hlocks := B.notSynchronized
  subst hsz
  have hD := hD0.self (sz := s.heap.size)
  generalize hAe : va_A [(mo, .inr (8, [.int (nI th), .ref ra, .ref ca, .ref ha, .int (nI kp), .ref ba, .int (nI hd), .ref wa])), (ra, .inl (kr, 8, .inl (aN rf))), (ca, .inl (kc, 8, .inl (aN cf))), (ha, .inl (kh, 8, .inl (aN hf)))] s.heap.size = A at hD ⊢
  have hA : ∀ q : Nat, s.heap.size ≤ q → A q := fun q h => by rw [← hAe]; exact Or.inr h
  have hS : va_S A s.heap s.heap [] := va_S.rf
  have hl := lv_entry ([.ref mo, .int x0]) (n := 2) (Nat.le_of_ble_eq_true rfl)
  refine W.eq (g2 := F0 m 0 (lg_sl ([.ref mo, .int x0]) ++ List.replicate (2 - (lg_sl ([.ref mo, .int x0])).length) Slot.unset).toArray []) (by rw [hargs]; exact lg_entry_eq _ _ _) ?_
  generalize (lg_sl ([.ref mo, .int x0]) ++ List.replicate (2 - (lg_sl ([.ref mo, .int x0])).length) Slot.unset).toArray = ls at hl ⊢
  have hl : lv_has ls 2 [(0, .ref mo), (1, .int x0)] := hl
  refine lv_aload_n hx hb dX6_trace_0 rfl (lv_at hl 0 rfl) ?_
  refine lv_iload_n hx hb dX6_trace_1 rfl (lv_at hl 1 rfl) ?_
  refine lv_iconst (v := nI 0) hx hb dX6_trace_2 zki_0 ?_
  refine lv_iconst (v := nI 0) hx hb dX6_trace_3 zki_0 ?_
  have hPc := hP.sub (ws' := [(mo, .inr (8, [.int (nI th), .ref ra, .ref ca, .ref ha, .int (nI kp), .ref ba, .int (nI hd), .ref wa]))]) [0] rfl
  have hDc := hD.sub (ws' := [(mo, .inr (8, [.int (nI th), .ref ra, .ref ca, .ref ha, .int (nI kp), .ref ba, .int (nI hd), .ref wa]))]) [0] (by decide) rfl
  have hKc := hK.sub (tys' := []) [] rfl
  have hFc := va_free (wc := [(mo, .inr (8, [.int (nI th), .ref ra, .ref ca, .ref ha, .int (nI kp), .ref ba, .int (nI hd), .ref wa]))]) hD hS hA [0] rfl
  refine va_calli (va_runV (As := [.int x0, .int (nI 0), .int (nI 0)]) (rest := []) ⟨hx, hb, hml, hown, hts⟩ (c_X6_areNone_no l D s.heap.size mo ra ca ha ba wa kp hd th x0 (nI 0) (nI 0) (by rw [ok3_1]; exact hno)) (cwV 3 hts gX6_trace_X6_areNone rfl rfl rfl (by decide +kernel) ⟨Nat.le_of_ble_eq_true rfl, Nat.le_of_ble_eq_true rfl⟩) ⟨(z_fb2), va_recv hK hP (ci := 8) (q0 := 0) rfl rfl, fun U hU hW => ⟨rfl, by rw [hU], by rw [hU]; exact hPc, va_K.moved hW.alike hKc, hDc.weaken (fun _ _ _ _ => trivial)⟩⟩ rfl rfl hl.1 rfl (lv_room (Nat.le_of_ble_eq_true rfl)) dX6_trace_4 ⟨Nat.le_of_ble_eq_true rfl, Nat.le_of_ble_eq_true rfl⟩) hS (fun q _ h => hFc q h) hFc (fun r4 u4 t H locs ht hvm e4 hB hz1 hk1 hS => ?_)
  obtain ⟨hP1, hK1, hD1⟩ := hB
  rw [ht] at hP1
  obtain ⟨hP, hD⟩ := va_join (wr := [(ra, .inl (kr, 8, .inl (aN rf))), (ca, .inl (kc, 8, .inl (aN cf))), (ha, .inl (kh, 8, .inl (aN hf)))]) (w1 := [(mo, .inr (8, [.int (nI 1), .ref ra, .ref ca, .ref ha, .int (nI kp), .ref ba, .int (nI hd), .ref wa]))]) hP hD [0] [1, 2, 3] rfl rfl (by decide) (by decide) hk1 hFc hP1 hD1
  have hP : va_P D vwCl [(ra, .inl (kr, 8, .inl (aN rf))), (ca, .inl (kc, 8, .inl (aN cf))), (ha, .inl (kh, 8, .inl (aN hf))), (mo, .inr (8, [.int (nI 1), .ref ra, .ref ca, .ref ha, .int (nI kp), .ref ba, .int (nI hd), .ref wa]))] H := hP
  have hD : va_D A [(ra, .inl (kr, 8, .inl (aN rf))), (ca, .inl (kc, 8, .inl (aN cf))), (ha, .inl (kh, 8, .inl (aN hf))), (mo, .inr (8, [.int (nI 1), .ref ra, .ref ca, .ref ha, .int (nI kp), .ref ba, .int (nI hd), .ref wa]))] := hD
  refine W.widen (k := 0) (n := 0) (Nat.le_of_ble_eq_true rfl) (Nat.le_of_ble_eq_true rfl) ?_
  subst e4
  refine z_beq (tgt := 14) hx hb dX6_trace_7 (by decide) (fun c_7 => absurd c_7 (by decide)) (fun c_7 => ?_)
  refine lv_iconst (v := nI 0) hx hb dX6_trace_10 zki_0 ?_
  refine lv_goto (tgt := 23) hx hb dX6_trace_11 (by decide) ?_
  have hP9 := hP.sub (ws' := [(mo, .inr (8, [.int (nI 1), .ref ra, .ref ca, .ref ha, .int (nI kp), .ref ba, .int (nI hd), .ref wa])), (ra, .inl (kr, 8, .inl (aN rf))), (ca, .inl (kc, 8, .inl (aN cf))), (ha, .inl (kh, 8, .inl (aN hf)))]) [3, 0, 1, 2] rfl
  have hD9 := hD.sub (ws' := [(mo, .inr (8, [.int (nI 1), .ref ra, .ref ca, .ref ha, .int (nI kp), .ref ba, .int (nI hd), .ref wa])), (ra, .inl (kr, 8, .inl (aN rf))), (ca, .inl (kc, 8, .inl (aN cf))), (ha, .inl (kh, 8, .inl (aN hf)))]) [3, 0, 1, 2] (by decide) rfl
  have hK9 := hK.sub (tys' := [(kr, .int), (kc, .int), (kh, .int)]) [0, 1, 2] rfl
  subst hAe
  refine W.widen (k := 0) (n := 0) (Nat.le_of_ble_eq_true rfl) (Nat.le_of_ble_eq_true rfl) ?_
  exact W.iret hx hb hr (fun t ht hW => ⟨⟨_, (), rfl, (rfl), by rw [ht]; exact hP9, va_K.moved hW.alike hK9, hD9⟩, hS.F ht⟩) hS.2.2 dX6_trace_23
abbrev rm_c_X6_sum_ok : Room := { frames := 2, cells := 0, slots := 0, locals := 45 }
abbrev q_c_X6_sum_ok (D : va_G) (sz : Nat) (mo : Nat) (ra : Nat) (ca : Nat) (ha : Nat) (ba : Nat) (wa : Nat) (kp : Nat) (hd : Nat) (kr : ClassId) (kc : ClassId) (kh : ClassId) (th : Nat) (rf : Nat → Nat) (cf : Nat → Nat) (hf : Nat → Nat) (j : Nat) (k : Nat) (i : Nat) : Array Value → State → Outcome → State → Prop := va_Qi (fun r (_ : Unit) => r = (nI (rf k ^^^ rf i))) (fun (_ : Unit) t => va_P D vwCl [(mo, .inr (8, [.int (nI 0), .ref ra, .ref ca, .ref ha, .int (nI (min kp 7 + 1)), .ref ba, .int (nI hd), .ref wa])), (ra, .inl (kr, 8, .inl (aN (va_up rf j (rf k ^^^ rf i))))), (ca, .inl (kc, 8, .inl (aN (rng cf kp j)))), (ha, .inl (kh, 8, .inl (aN (rng hf kp (rf j)))))] t.heap ∧ va_K D vwCl [(kr, .int), (kc, .int), (kh, .int)] t ∧ va_D (va_A [(mo, .inr (8, [.int (nI th), .ref ra, .ref ca, .ref ha, .int (nI kp), .ref ba, .int (nI hd), .ref wa])), (ra, .inl (kr, 8, .inl (aN rf))), (ca, .inl (kc, 8, .inl (aN cf))), (ha, .inl (kh, 8, .inl (aN hf)))] sz) [(mo, .inr (8, [.int (nI 0), .ref ra, .ref ca, .ref ha, .int (nI (min kp 7 + 1)), .ref ba, .int (nI hd), .ref wa])), (ra, .inl (kr, 8, .inl (aN (va_up rf j (rf k ^^^ rf i))))), (ca, .inl (kc, 8, .inl (aN (rng cf kp j)))), (ha, .inl (kh, 8, .inl (aN (rng hf kp (rf j)))))]) (va_A [(mo, .inr (8, [.int (nI th), .ref ra, .ref ca, .ref ha, .int (nI kp), .ref ba, .int (nI hd), .ref wa])), (ra, .inl (kr, 8, .inl (aN rf))), (ca, .inl (kc, 8, .inl (aN cf))), (ha, .inl (kh, 8, .inl (aN hf)))] sz)
set_option maxHeartbeats 4000000 in
set_option maxRecDepth 100000 in
theorem c_X6_sum_ok (l : Launch) (D : va_G) (sz : Nat) (mo : Nat) (ra : Nat) (ca : Nat) (ha : Nat) (ba : Nat) (wa : Nat) (kp : Nat) (hd : Nat) (kr : ClassId) (kc : ClassId) (kh : ClassId) (th : Nat) (rf : Nat → Nat) (cf : Nat → Nat) (hf : Nat → Nat) (j : Nat) (k : Nat) (i : Nat) (hrf : ∀ k, k < 8 → rf k < 256) (hkp : kp ≤ 8) (hj : j < 8) (hk : k < 8) (hi : i < 8) : Met l yX6_sum wsX6_sum rm_c_X6_sum_ok (va_Pc [.ref mo, .int (nI j), .int (nI k), .int (nI i)] (fun U => U.heap.size = sz ∧ va_P D vwCl [(mo, .inr (8, [.int (nI th), .ref ra, .ref ca, .ref ha, .int (nI kp), .ref ba, .int (nI hd), .ref wa])), (ra, .inl (kr, 8, .inl (aN rf))), (ca, .inl (kc, 8, .inl (aN cf))), (ha, .inl (kh, 8, .inl (aN hf)))] U.heap ∧ va_K D vwCl [(kr, .int), (kc, .int), (kh, .int)] U ∧ va_D (fun _ => True) [(mo, .inr (8, [.int (nI th), .ref ra, .ref ca, .ref ha, .int (nI kp), .ref ba, .int (nI hd), .ref wa])), (ra, .inl (kr, 8, .inl (aN rf))), (ca, .inl (kc, 8, .inl (aN cf))), (ha, .inl (kh, 8, .inl (aN hf)))])) (q_c_X6_sum_ok D sz mo ra ca ha ba wa kp hd kr kc kh th rf cf hf j k i) 0 0 (va_A [(mo, .inr (8, [.int (nI th), .ref ra, .ref ca, .ref ha, .int (nI kp), .ref ba, .int (nI hd), .ref wa])), (ra, .inl (kr, 8, .inl (aN rf))), (ca, .inl (kc, 8, .inl (aN cf))), (ha, .inl (kh, 8, .inl (aN hf)))] sz) := by
  refine Met.ofW (cc := cX6_sum) (maxL := 4) (ret := (some .int)) (by decide) rfl ?_
  intro p e s m args below meth c s₁ B hml hv
  obtain ⟨hargs, hsz, hP, hK, hD0⟩ := hv
  have hx := B.exec
  have hb := B.bytes
  have hr := B.returns
  have hts := atoms_spec (ws := wsX6_sum) B.pre
  have hown : s.vm.findClass RX6 = some m.cls := findClass_of_methodNamed B.named
  have hlocks := B.notSynchronized
  subst hsz
  have hD := hD0.self (sz := s.heap.size)
  generalize hAe : va_A [(mo, .inr (8, [.int (nI th), .ref ra, .ref ca, .ref ha, .int (nI kp), .ref ba, .int (nI hd), .ref wa])), (ra, .inl (kr, 8, .inl (aN rf))), (ca, .inl (kc, 8, .inl (aN cf))), (ha, .inl (kh, 8, .inl (aN hf)))] s.heap.size = A at hD ⊢
  have hA : ∀ q : Nat, s.heap.size ≤ q → A q := fun q h => by rw [← hAe]; exact Or.inr h
  have hS : va_S A s.heap s.heap [] := va_S.rf
  have hl := lv_entry ([.ref mo, .int (nI j), .int (nI k), .int (nI i)]) (n := 4) (Nat.le_of_ble_eq_true rfl)
  refine W.eq (g2 := F0 m 0 (lg_sl ([.ref mo, .int (nI j), .int (nI k), .int (nI i)]) ++ List.replicate (4 - (lg_sl ([.ref mo, .int (nI j), .int (nI k), .int (nI i)])).length) Slot.unset).toArray []) (by rw [hargs]; exact lg_entry_eq _ _ _) ?_
  generalize (lg_sl ([.ref mo, .int (nI j), .int (nI k), .int (nI i)]) ++ List.replicate (4 - (lg_sl ([.ref mo, .int (nI j), .int (nI k), .int (nI i)])).length) Slot.unset).toArray = ls at hl ⊢
  have hl : lv_has ls 4 [(0, .ref mo), (1, .int (nI j)), (2, .int (nI k)), (3, .int (nI i))] := hl
  refine lv_aload_n hx hb dX6_sum_0 rfl (lv_at hl 0 rfl) ?_
  refine lv_iload_n hx hb dX6_sum_1 rfl (lv_at hl 1 rfl) ?_
  refine lv_iload_n hx hb dX6_sum_2 rfl (lv_at hl 2 rfl) ?_
  refine lv_iload_n hx hb dX6_sum_3 rfl (lv_at hl 3 rfl) ?_
  have hPc := hP.sub (ws' := [(mo, .inr (8, [.int (nI th), .ref ra, .ref ca, .ref ha, .int (nI kp), .ref ba, .int (nI hd), .ref wa]))]) [0] rfl
  have hDc := hD.sub (ws' := [(mo, .inr (8, [.int (nI th), .ref ra, .ref ca, .ref ha, .int (nI kp), .ref ba, .int (nI hd), .ref wa]))]) [0] (by decide) rfl
  have hKc := hK.sub (tys' := []) [] rfl
  have hFc := va_free (wc := [(mo, .inr (8, [.int (nI th), .ref ra, .ref ca, .ref ha, .int (nI kp), .ref ba, .int (nI hd), .ref wa]))]) hD hS hA [0] rfl
  refine va_calli (va_runV (As := [.int (nI j), .int (nI k), .int (nI i)]) (rest := []) ⟨hx, hb, hml, hown, hts⟩ (c_X6_areNone_ok l D s.heap.size mo ra ca ha ba wa kp hd th j k i (by omega) (by omega) (by omega)) (cwV 3 hts gX6_sum_X6_areNone rfl rfl rfl (by decide +kernel) ⟨Nat.le_of_ble_eq_true rfl, Nat.le_of_ble_eq_true rfl⟩) ⟨(z_fb2), va_recv hK hP (ci := 8) (q0 := 0) rfl rfl, fun U hU hW => ⟨rfl, by rw [hU], by rw [hU]; exact hPc, va_K.moved hW.alike hKc, hDc.weaken (fun _ _ _ _ => trivial)⟩⟩ rfl rfl hl.1 rfl (lv_room (Nat.le_of_ble_eq_true rfl)) dX6_sum_4 ⟨Nat.le_of_ble_eq_true rfl, Nat.le_of_ble_eq_true rfl⟩) hS (fun q _ h => hFc q h) hFc (fun r4 u4 t H locs ht hvm e4 hB hz1 hk1 hS => ?_)
  obtain ⟨hP1, hK1, hD1⟩ := hB
  rw [ht] at hP1
  obtain ⟨hP, hD⟩ := va_join (wr := [(ra, .inl (kr, 8, .inl (aN rf))), (ca, .inl (kc, 8, .inl (aN cf))), (ha, .inl (kh, 8, .inl (aN hf)))]) (w1 := [(mo, .inr (8, [.int (nI 0), .ref ra, .ref ca, .ref ha, .int (nI kp), .ref ba, .int (nI hd), .ref wa]))]) hP hD [0] [1, 2, 3] rfl rfl (by decide) (by decide) hk1 hFc hP1 hD1
  have hP : va_P D vwCl [(ra, .inl (kr, 8, .inl (aN rf))), (ca, .inl (kc, 8, .inl (aN cf))), (ha, .inl (kh, 8, .inl (aN hf))), (mo, .inr (8, [.int (nI 0), .ref ra, .ref ca, .ref ha, .int (nI kp), .ref ba, .int (nI hd), .ref wa]))] H := hP
  have hD : va_D A [(ra, .inl (kr, 8, .inl (aN rf))), (ca, .inl (kc, 8, .inl (aN cf))), (ha, .inl (kh, 8, .inl (aN hf))), (mo, .inr (8, [.int (nI 0), .ref ra, .ref ca, .ref ha, .int (nI kp), .ref ba, .int (nI hd), .ref wa]))] := hD
  refine W.widen (k := 0) (n := 0) (Nat.le_of_ble_eq_true rfl) (Nat.le_of_ble_eq_true rfl) ?_
  subst e4
  have hr_j : rf j < 256 := hrf _ (by omega)
  have hr_k : rf k < 256 := hrf _ (by omega)
  have hr_i : rf i < 256 := hrf _ (by omega)
  refine z_beq (tgt := 14) hx hb dX6_sum_7 (by decide) (fun c_7 => ?_) (fun c_7 => absurd c_7 (by decide))
  refine lv_aload_n hx hb dX6_sum_14 rfl (lv_at hl 0 rfl) ?_
  refine lv_iload_n hx hb dX6_sum_15 rfl (lv_at hl 1 rfl) ?_
  refine lv_aload_n hx hb dX6_sum_16 rfl (lv_at hl 0 rfl) ?_
  refine va_get (D := D) (ci := 8) (v := .ref ra) (C := RX6) (T := TX6) (N := 8) hx hb hts nX6_sum_inX6 hown hK hP 3 rfl rfl 1 (by decide) (hts (.fieldLink RX6 9 "GamefieldModel" "registers" "[I") (by decide +kernel)) (fun _ h9 => h9) rfl dX6_sum_17 ?_
  refine lv_iload_n hx hb dX6_sum_20 rfl (lv_at hl 2 rfl) ?_
  refine z_iald hx hb hK hP 0 0 rfl rfl (by omega) (by decide) dX6_sum_21 ?_
  refine lv_aload_n hx hb dX6_sum_22 rfl (lv_at hl 0 rfl) ?_
  refine va_get (D := D) (ci := 8) (v := .ref ra) (C := RX6) (T := TX6) (N := 8) hx hb hts nX6_sum_inX6 hown hK hP 3 rfl rfl 1 (by decide) (hts (.fieldLink RX6 9 "GamefieldModel" "registers" "[I") (by decide +kernel)) (fun _ h9 => h9) rfl dX6_sum_23 ?_
  refine lv_iload_n hx hb dX6_sum_26 rfl (lv_at hl 3 rfl) ?_
  refine z_iald hx hb hK hP 0 0 rfl rfl (by omega) (by decide) dX6_sum_27 ?_
  refine z_ci (va_runS (As := [.int (nI (rf k)), .int (nI (rf i))]) (rest := [.int (nI j), .ref mo]) ⟨hx, hb, hml, hown, hts⟩ (c_X6_sumOf l D (rf k) (rf i) (by omega) (by omega)) (va_cwS 2 hts gX6_sum_X6_sumOf rfl rfl rfl (by decide +kernel) ⟨Nat.le_of_ble_eq_true rfl, Nat.le_of_ble_eq_true rfl⟩) ⟨z_fb0, fun U hU hW => ⟨rfl, trivial⟩⟩ rfl rfl hl.1 rfl (lv_room (Nat.le_of_ble_eq_true rfl)) dX6_sum_28 ⟨Nat.le_of_ble_eq_true rfl, Nat.le_of_ble_eq_true rfl⟩) (fun r28 e28 => ?_)
  subst e28
  have hx28 : (rf k) ^^^ (rf i) < 256 := zx8 (by omega) (by omega)
  have hPc := hP.sub (ws' := [(mo, .inr (8, [.int (nI 0), .ref ra, .ref ca, .ref ha, .int (nI kp), .ref ba, .int (nI hd), .ref wa])), (ra, .inl (kr, 8, .inl (aN rf))), (ca, .inl (kc, 8, .inl (aN cf))), (ha, .inl (kh, 8, .inl (aN hf)))]) [3, 0, 1, 2] rfl
  have hDc := hD.sub (ws' := [(mo, .inr (8, [.int (nI 0), .ref ra, .ref ca, .ref ha, .int (nI kp), .ref ba, .int (nI hd), .ref wa])), (ra, .inl (kr, 8, .inl (aN rf))), (ca, .inl (kc, 8, .inl (aN cf))), (ha, .inl (kh, 8, .inl (aN hf)))]) [3, 0, 1, 2] (by decide) rfl
  have hKc := hK.sub (tys' := [(kr, .int), (kc, .int), (kh, .int)]) [0, 1, 2] rfl
  have hFc := va_free (wc := [(mo, .inr (8, [.int (nI 0), .ref ra, .ref ca, .ref ha, .int (nI kp), .ref ba, .int (nI hd), .ref wa])), (ra, .inl (kr, 8, .inl (aN rf))), (ca, .inl (kc, 8, .inl (aN cf))), (ha, .inl (kh, 8, .inl (aN hf)))]) hD hS hA [3, 0, 1, 2] rfl
  refine va_calli (va_runV (As := [.int (nI j), .int (nI ((rf k) ^^^ (rf i)))]) (rest := []) ⟨hx, hb, hml, hown, hts⟩ (c_X6_becomes l D H.size mo ra ca ha ba wa kp hd kr kc kh 0 rf cf hf j ((rf k) ^^^ (rf i)) (by omega) (by omega) (by omega) (by omega)) (cwV 2 hts gX6_sum_X6_becomes rfl rfl rfl (by decide +kernel) ⟨Nat.le_of_ble_eq_true rfl, Nat.le_of_ble_eq_true rfl⟩) ⟨(z_fb2), va_recv hK hP (ci := 8) (q0 := 3) rfl rfl, fun U hU hW => ⟨rfl, by rw [hU], by rw [hU]; exact hPc, va_K.moved hW.alike hKc, hDc.weaken (fun _ _ _ _ => trivial)⟩⟩ rfl rfl hl.1 rfl (lv_room (Nat.le_of_ble_eq_true rfl)) dX6_sum_31 ⟨Nat.le_of_ble_eq_true rfl, Nat.le_of_ble_eq_true rfl⟩) hS (fun q _ h => hFc q h) hFc (fun r31 u31 t H locs ht hvm e31 hB hz1 hk1 hS => ?_)
  obtain ⟨hP1, hK1, hD1⟩ := hB
  rw [ht] at hP1
  obtain ⟨hP, hD⟩ := va_join (wr := []) (w1 := [(mo, .inr (8, [.int (nI 0), .ref ra, .ref ca, .ref ha, .int (nI (min kp 7 + 1)), .ref ba, .int (nI hd), .ref wa])), (ra, .inl (kr, 8, .inl (aN (va_up rf j ((rf k) ^^^ (rf i)))))), (ca, .inl (kc, 8, .inl (aN (rng cf kp j)))), (ha, .inl (kh, 8, .inl (aN (rng hf kp (rf j)))))]) hP hD [3, 0, 1, 2] [] rfl rfl (by decide) (by decide) hk1 hFc hP1 hD1
  have hP : va_P D vwCl [(mo, .inr (8, [.int (nI 0), .ref ra, .ref ca, .ref ha, .int (nI (min kp 7 + 1)), .ref ba, .int (nI hd), .ref wa])), (ra, .inl (kr, 8, .inl (aN (va_up rf j ((rf k) ^^^ (rf i)))))), (ca, .inl (kc, 8, .inl (aN (rng cf kp j)))), (ha, .inl (kh, 8, .inl (aN (rng hf kp (rf j)))))] H := hP
  have hD : va_D A [(mo, .inr (8, [.int (nI 0), .ref ra, .ref ca, .ref ha, .int (nI (min kp 7 + 1)), .ref ba, .int (nI hd), .ref wa])), (ra, .inl (kr, 8, .inl (aN (va_up rf j ((rf k) ^^^ (rf i)))))), (ca, .inl (kc, 8, .inl (aN (rng cf kp j)))), (ha, .inl (kh, 8, .inl (aN (rng hf kp (rf j)))))] := hD
  refine W.widen (k := 0) (n := 0) (Nat.le_of_ble_eq_true rfl) (Nat.le_of_ble_eq_true rfl) ?_
  subst e31
  have hP9 := hP.sub (ws' := [(mo, .inr (8, [.int (nI 0), .ref ra, .ref ca, .ref ha, .int (nI (min kp 7 + 1)), .ref ba, .int (nI hd), .ref wa])), (ra, .inl (kr, 8, .inl (aN (va_up rf j ((rf k) ^^^ (rf i)))))), (ca, .inl (kc, 8, .inl (aN (rng cf kp j)))), (ha, .inl (kh, 8, .inl (aN (rng hf kp (rf j)))))]) [0, 1, 2, 3] rfl
  have hD9 := hD.sub (ws' := [(mo, .inr (8, [.int (nI 0), .ref ra, .ref ca, .ref ha, .int (nI (min kp 7 + 1)), .ref ba, .int (nI hd), .ref wa])), (ra, .inl (kr, 8, .inl (aN (va_up rf j ((rf k) ^^^ (rf i)))))), (ca, .inl (kc, 8, .inl (aN (rng cf kp j)))), (ha, .inl (kh, 8, .inl (aN (rng hf kp (rf j)))))]) [0, 1, 2, 3] (by decide) rfl
  have hK9 := hK.sub (tys' := [(kr, .int), (kc, .int), (kh, .int)]) [0, 1, 2] rfl
  subst hAe
  refine W.widen (k := 0) (n := 0) (Nat.le_of_ble_eq_true rfl) (Nat.le_of_ble_eq_true rfl) ?_
  exact W.iret hx hb hr (fun t ht hW => ⟨⟨_, (), rfl, (rfl), by rw [ht]; exact hP9, va_K.moved hW.alike hK9, hD9⟩, hS.F ht⟩) hS.2.2 dX6_sum_34
abbrev rm_c_X6_sum_no : Room := { frames := 2, cells := 0, slots := 0, locals := 45 }
abbrev q_c_X6_sum_no (D : va_G) (sz : Nat) (mo : Nat) (ra : Nat) (ca : Nat) (ha : Nat) (ba : Nat) (wa : Nat) (kp : Nat) (hd : Nat) (kr : ClassId) (kc : ClassId) (kh : ClassId) (th : Nat) (rf : Nat → Nat) (cf : Nat → Nat) (hf : Nat → Nat) (x0 : Int32) (x1 : Int32) (x2 : Int32) : Array Value → State → Outcome → State → Prop := va_Qi (fun r (_ : Unit) => r = (nI 0)) (fun (_ : Unit) t => va_P D vwCl [(mo, .inr (8, [.int (nI 1), .ref ra, .ref ca, .ref ha, .int (nI kp), .ref ba, .int (nI hd), .ref wa])), (ra, .inl (kr, 8, .inl (aN rf))), (ca, .inl (kc, 8, .inl (aN cf))), (ha, .inl (kh, 8, .inl (aN hf)))] t.heap ∧ va_K D vwCl [(kr, .int), (kc, .int), (kh, .int)] t ∧ va_D (va_A [(mo, .inr (8, [.int (nI th), .ref ra, .ref ca, .ref ha, .int (nI kp), .ref ba, .int (nI hd), .ref wa])), (ra, .inl (kr, 8, .inl (aN rf))), (ca, .inl (kc, 8, .inl (aN cf))), (ha, .inl (kh, 8, .inl (aN hf)))] sz) [(mo, .inr (8, [.int (nI 1), .ref ra, .ref ca, .ref ha, .int (nI kp), .ref ba, .int (nI hd), .ref wa])), (ra, .inl (kr, 8, .inl (aN rf))), (ca, .inl (kc, 8, .inl (aN cf))), (ha, .inl (kh, 8, .inl (aN hf)))]) (va_A [(mo, .inr (8, [.int (nI th), .ref ra, .ref ca, .ref ha, .int (nI kp), .ref ba, .int (nI hd), .ref wa])), (ra, .inl (kr, 8, .inl (aN rf))), (ca, .inl (kc, 8, .inl (aN cf))), (ha, .inl (kh, 8, .inl (aN hf)))] sz)
set_option maxHeartbeats 4000000 in
set_option maxRecDepth 100000 in
theorem c_X6_sum_no (l : Launch) (D : va_G) (sz : Nat) (mo : Nat) (ra : Nat) (ca : Nat) (ha : Nat) (ba : Nat) (wa : Nat) (kp : Nat) (hd : Nat) (kr : ClassId) (kc : ClassId) (kh : ClassId) (th : Nat) (rf : Nat → Nat) (cf : Nat → Nat) (hf : Nat → Nat) (x0 : Int32) (x1 : Int32) (x2 : Int32) (hrf : ∀ k, k < 8 → rf k < 256) (hkp : kp ≤ 8) (hno : ok3 x0 x1 x2 = false) : Met l yX6_sum wsX6_sum rm_c_X6_sum_no (va_Pc [.ref mo, .int x0, .int x1, .int x2] (fun U => U.heap.size = sz ∧ va_P D vwCl [(mo, .inr (8, [.int (nI th), .ref ra, .ref ca, .ref ha, .int (nI kp), .ref ba, .int (nI hd), .ref wa])), (ra, .inl (kr, 8, .inl (aN rf))), (ca, .inl (kc, 8, .inl (aN cf))), (ha, .inl (kh, 8, .inl (aN hf)))] U.heap ∧ va_K D vwCl [(kr, .int), (kc, .int), (kh, .int)] U ∧ va_D (fun _ => True) [(mo, .inr (8, [.int (nI th), .ref ra, .ref ca, .ref ha, .int (nI kp), .ref ba, .int (nI hd), .ref wa])), (ra, .inl (kr, 8, .inl (aN rf))), (ca, .inl (kc, 8, .inl (aN cf))), (ha, .inl (kh, 8, .inl (aN hf)))])) (q_c_X6_sum_no D sz mo ra ca ha ba wa kp hd kr kc kh th rf cf hf x0 x1 x2) 0 0 (va_A [(mo, .inr (8, [.int (nI th), .ref ra, .ref ca, .ref ha, .int (nI kp), .ref ba, .int (nI hd), .ref wa])), (ra, .inl (kr, 8, .inl (aN rf))), (ca, .inl (kc, 8, .inl (aN cf))), (ha, .inl (kh, 8, .inl (aN hf)))] sz) := by
  refine Met.ofW (cc := cX6_sum) (maxL := 4) (ret := (some .int)) (by decide) rfl ?_
  intro p e s m args below meth c s₁ B hml hv
  obtain ⟨hargs, hsz, hP, hK, hD0⟩ := hv
  have hx := B.exec
  have hb := B.bytes
  have hr := B.returns
  have hts := atoms_spec (ws := wsX6_sum) B.pre
  have hown : s.vm.findClass RX6 = some m.cls := findClass_of_methodNamed B.named
  have hlocks := B.notSynchronized
  subst hsz
  have hD := hD0.self (sz := s.heap.size)
  generalize hAe : va_A [(mo, .inr (8, [.int (nI th), .ref ra, .ref ca, .ref ha, .int (nI kp), .ref ba, .int (nI hd), .ref wa])), (ra, .inl (kr, 8, .inl (aN rf))), (ca, .inl (kc, 8, .inl (aN cf))), (ha, .inl (kh, 8, .inl (aN hf)))] s.heap.size = A at hD ⊢
  have hA : ∀ q : Nat, s.heap.size ≤ q → A q := fun q h => by rw [← hAe]; exact Or.inr h
  have hS : va_S A s.heap s.heap [] := va_S.rf
  have hl := lv_entry ([.ref mo, .int x0, .int x1, .int x2]) (n := 4) (Nat.le_of_ble_eq_true rfl)
  refine W.eq (g2 := F0 m 0 (lg_sl ([.ref mo, .int x0, .int x1, .int x2]) ++ List.replicate (4 - (lg_sl ([.ref mo, .int x0, .int x1, .int x2])).length) Slot.unset).toArray []) (by rw [hargs]; exact lg_entry_eq _ _ _) ?_
  generalize (lg_sl ([.ref mo, .int x0, .int x1, .int x2]) ++ List.replicate (4 - (lg_sl ([.ref mo, .int x0, .int x1, .int x2])).length) Slot.unset).toArray = ls at hl ⊢
  have hl : lv_has ls 4 [(0, .ref mo), (1, .int x0), (2, .int x1), (3, .int x2)] := hl
  refine lv_aload_n hx hb dX6_sum_0 rfl (lv_at hl 0 rfl) ?_
  refine lv_iload_n hx hb dX6_sum_1 rfl (lv_at hl 1 rfl) ?_
  refine lv_iload_n hx hb dX6_sum_2 rfl (lv_at hl 2 rfl) ?_
  refine lv_iload_n hx hb dX6_sum_3 rfl (lv_at hl 3 rfl) ?_
  have hPc := hP.sub (ws' := [(mo, .inr (8, [.int (nI th), .ref ra, .ref ca, .ref ha, .int (nI kp), .ref ba, .int (nI hd), .ref wa]))]) [0] rfl
  have hDc := hD.sub (ws' := [(mo, .inr (8, [.int (nI th), .ref ra, .ref ca, .ref ha, .int (nI kp), .ref ba, .int (nI hd), .ref wa]))]) [0] (by decide) rfl
  have hKc := hK.sub (tys' := []) [] rfl
  have hFc := va_free (wc := [(mo, .inr (8, [.int (nI th), .ref ra, .ref ca, .ref ha, .int (nI kp), .ref ba, .int (nI hd), .ref wa]))]) hD hS hA [0] rfl
  refine va_calli (va_runV (As := [.int x0, .int x1, .int x2]) (rest := []) ⟨hx, hb, hml, hown, hts⟩ (c_X6_areNone_no l D s.heap.size mo ra ca ha ba wa kp hd th x0 x1 x2 (hno)) (cwV 3 hts gX6_sum_X6_areNone rfl rfl rfl (by decide +kernel) ⟨Nat.le_of_ble_eq_true rfl, Nat.le_of_ble_eq_true rfl⟩) ⟨(z_fb2), va_recv hK hP (ci := 8) (q0 := 0) rfl rfl, fun U hU hW => ⟨rfl, by rw [hU], by rw [hU]; exact hPc, va_K.moved hW.alike hKc, hDc.weaken (fun _ _ _ _ => trivial)⟩⟩ rfl rfl hl.1 rfl (lv_room (Nat.le_of_ble_eq_true rfl)) dX6_sum_4 ⟨Nat.le_of_ble_eq_true rfl, Nat.le_of_ble_eq_true rfl⟩) hS (fun q _ h => hFc q h) hFc (fun r4 u4 t H locs ht hvm e4 hB hz1 hk1 hS => ?_)
  obtain ⟨hP1, hK1, hD1⟩ := hB
  rw [ht] at hP1
  obtain ⟨hP, hD⟩ := va_join (wr := [(ra, .inl (kr, 8, .inl (aN rf))), (ca, .inl (kc, 8, .inl (aN cf))), (ha, .inl (kh, 8, .inl (aN hf)))]) (w1 := [(mo, .inr (8, [.int (nI 1), .ref ra, .ref ca, .ref ha, .int (nI kp), .ref ba, .int (nI hd), .ref wa]))]) hP hD [0] [1, 2, 3] rfl rfl (by decide) (by decide) hk1 hFc hP1 hD1
  have hP : va_P D vwCl [(ra, .inl (kr, 8, .inl (aN rf))), (ca, .inl (kc, 8, .inl (aN cf))), (ha, .inl (kh, 8, .inl (aN hf))), (mo, .inr (8, [.int (nI 1), .ref ra, .ref ca, .ref ha, .int (nI kp), .ref ba, .int (nI hd), .ref wa]))] H := hP
  have hD : va_D A [(ra, .inl (kr, 8, .inl (aN rf))), (ca, .inl (kc, 8, .inl (aN cf))), (ha, .inl (kh, 8, .inl (aN hf))), (mo, .inr (8, [.int (nI 1), .ref ra, .ref ca, .ref ha, .int (nI kp), .ref ba, .int (nI hd), .ref wa]))] := hD
  refine W.widen (k := 0) (n := 0) (Nat.le_of_ble_eq_true rfl) (Nat.le_of_ble_eq_true rfl) ?_
  subst e4
  refine z_beq (tgt := 14) hx hb dX6_sum_7 (by decide) (fun c_7 => absurd c_7 (by decide)) (fun c_7 => ?_)
  refine lv_iconst (v := nI 0) hx hb dX6_sum_10 zki_0 ?_
  refine lv_goto (tgt := 34) hx hb dX6_sum_11 (by decide) ?_
  have hP9 := hP.sub (ws' := [(mo, .inr (8, [.int (nI 1), .ref ra, .ref ca, .ref ha, .int (nI kp), .ref ba, .int (nI hd), .ref wa])), (ra, .inl (kr, 8, .inl (aN rf))), (ca, .inl (kc, 8, .inl (aN cf))), (ha, .inl (kh, 8, .inl (aN hf)))]) [3, 0, 1, 2] rfl
  have hD9 := hD.sub (ws' := [(mo, .inr (8, [.int (nI 1), .ref ra, .ref ca, .ref ha, .int (nI kp), .ref ba, .int (nI hd), .ref wa])), (ra, .inl (kr, 8, .inl (aN rf))), (ca, .inl (kc, 8, .inl (aN cf))), (ha, .inl (kh, 8, .inl (aN hf)))]) [3, 0, 1, 2] (by decide) rfl
  have hK9 := hK.sub (tys' := [(kr, .int), (kc, .int), (kh, .int)]) [0, 1, 2] rfl
  subst hAe
  refine W.widen (k := 0) (n := 0) (Nat.le_of_ble_eq_true rfl) (Nat.le_of_ble_eq_true rfl) ?_
  exact W.iret hx hb hr (fun t ht hW => ⟨⟨_, (), rfl, (rfl), by rw [ht]; exact hP9, va_K.moved hW.alike hK9, hD9⟩, hS.F ht⟩) hS.2.2 dX6_sum_34
abbrev rm_c_X6_product_ok : Room := { frames := 4, cells := 0, slots := 0, locals := 116 }
abbrev q_c_X6_product_ok (D : va_G) (sz : Nat) (mo : Nat) (ra : Nat) (ca : Nat) (ha : Nat) (ba : Nat) (wa : Nat) (kp : Nat) (hd : Nat) (kr : ClassId) (kc : ClassId) (kh : ClassId) (th : Nat) (rf : Nat → Nat) (cf : Nat → Nat) (hf : Nat → Nat) (j : Nat) (k : Nat) (i : Nat) : Array Value → State → Outcome → State → Prop := va_Qi (fun r (_ : Unit) => r = (nI (np (rf k) (rf i)))) (fun (_ : Unit) t => va_P D vwCl [(mo, .inr (8, [.int (nI 0), .ref ra, .ref ca, .ref ha, .int (nI (min kp 7 + 1)), .ref ba, .int (nI hd), .ref wa])), (ra, .inl (kr, 8, .inl (aN (va_up rf j (np (rf k) (rf i)))))), (ca, .inl (kc, 8, .inl (aN (rng cf kp j)))), (ha, .inl (kh, 8, .inl (aN (rng hf kp (rf j)))))] t.heap ∧ va_K D vwCl [(kr, .int), (kc, .int), (kh, .int)] t ∧ va_D (va_A [(mo, .inr (8, [.int (nI th), .ref ra, .ref ca, .ref ha, .int (nI kp), .ref ba, .int (nI hd), .ref wa])), (ra, .inl (kr, 8, .inl (aN rf))), (ca, .inl (kc, 8, .inl (aN cf))), (ha, .inl (kh, 8, .inl (aN hf)))] sz) [(mo, .inr (8, [.int (nI 0), .ref ra, .ref ca, .ref ha, .int (nI (min kp 7 + 1)), .ref ba, .int (nI hd), .ref wa])), (ra, .inl (kr, 8, .inl (aN (va_up rf j (np (rf k) (rf i)))))), (ca, .inl (kc, 8, .inl (aN (rng cf kp j)))), (ha, .inl (kh, 8, .inl (aN (rng hf kp (rf j)))))]) (va_A [(mo, .inr (8, [.int (nI th), .ref ra, .ref ca, .ref ha, .int (nI kp), .ref ba, .int (nI hd), .ref wa])), (ra, .inl (kr, 8, .inl (aN rf))), (ca, .inl (kc, 8, .inl (aN cf))), (ha, .inl (kh, 8, .inl (aN hf)))] sz)
set_option maxHeartbeats 4000000 in
set_option maxRecDepth 100000 in
theorem c_X6_product_ok (l : Launch) (D : va_G) (sz : Nat) (mo : Nat) (ra : Nat) (ca : Nat) (ha : Nat) (ba : Nat) (wa : Nat) (kp : Nat) (hd : Nat) (kr : ClassId) (kc : ClassId) (kh : ClassId) (th : Nat) (rf : Nat → Nat) (cf : Nat → Nat) (hf : Nat → Nat) (j : Nat) (k : Nat) (i : Nat) (hrf : ∀ k, k < 8 → rf k < 256) (hkp : kp ≤ 8) (hj : j < 8) (hk : k < 8) (hi : i < 8) : Met l yX6_product wsX6_product rm_c_X6_product_ok (va_Pc [.ref mo, .int (nI j), .int (nI k), .int (nI i)] (fun U => U.heap.size = sz ∧ va_P D vwCl [(mo, .inr (8, [.int (nI th), .ref ra, .ref ca, .ref ha, .int (nI kp), .ref ba, .int (nI hd), .ref wa])), (ra, .inl (kr, 8, .inl (aN rf))), (ca, .inl (kc, 8, .inl (aN cf))), (ha, .inl (kh, 8, .inl (aN hf)))] U.heap ∧ va_K D vwCl [(kr, .int), (kc, .int), (kh, .int)] U ∧ va_D (fun _ => True) [(mo, .inr (8, [.int (nI th), .ref ra, .ref ca, .ref ha, .int (nI kp), .ref ba, .int (nI hd), .ref wa])), (ra, .inl (kr, 8, .inl (aN rf))), (ca, .inl (kc, 8, .inl (aN cf))), (ha, .inl (kh, 8, .inl (aN hf)))])) (q_c_X6_product_ok D sz mo ra ca ha ba wa kp hd kr kc kh th rf cf hf j k i) 0 0 (va_A [(mo, .inr (8, [.int (nI th), .ref ra, .ref ca, .ref ha, .int (nI kp), .ref ba, .int (nI hd), .ref wa])), (ra, .inl (kr, 8, .inl (aN rf))), (ca, .inl (kc, 8, .inl (aN cf))), (ha, .inl (kh, 8, .inl (aN hf)))] sz) := by
  refine Met.ofW (cc := cX6_product) (maxL := 4) (ret := (some .int)) (by decide) rfl ?_
  intro p e s m args below meth c s₁ B hml hv
  obtain ⟨hargs, hsz, hP, hK, hD0⟩ := hv
  have hx := B.exec
  have hb := B.bytes
  have hr := B.returns
  have hts := atoms_spec (ws := wsX6_product) B.pre
  have hown : s.vm.findClass RX6 = some m.cls := findClass_of_methodNamed B.named
  have hlocks := B.notSynchronized
  subst hsz
  have hD := hD0.self (sz := s.heap.size)
  generalize hAe : va_A [(mo, .inr (8, [.int (nI th), .ref ra, .ref ca, .ref ha, .int (nI kp), .ref ba, .int (nI hd), .ref wa])), (ra, .inl (kr, 8, .inl (aN rf))), (ca, .inl (kc, 8, .inl (aN cf))), (ha, .inl (kh, 8, .inl (aN hf)))] s.heap.size = A at hD ⊢
  have hA : ∀ q : Nat, s.heap.size ≤ q → A q := fun q h => by rw [← hAe]; exact Or.inr h
  have hS : va_S A s.heap s.heap [] := va_S.rf
  have hl := lv_entry ([.ref mo, .int (nI j), .int (nI k), .int (nI i)]) (n := 4) (Nat.le_of_ble_eq_true rfl)
  refine W.eq (g2 := F0 m 0 (lg_sl ([.ref mo, .int (nI j), .int (nI k), .int (nI i)]) ++ List.replicate (4 - (lg_sl ([.ref mo, .int (nI j), .int (nI k), .int (nI i)])).length) Slot.unset).toArray []) (by rw [hargs]; exact lg_entry_eq _ _ _) ?_
  generalize (lg_sl ([.ref mo, .int (nI j), .int (nI k), .int (nI i)]) ++ List.replicate (4 - (lg_sl ([.ref mo, .int (nI j), .int (nI k), .int (nI i)])).length) Slot.unset).toArray = ls at hl ⊢
  have hl : lv_has ls 4 [(0, .ref mo), (1, .int (nI j)), (2, .int (nI k)), (3, .int (nI i))] := hl
  refine lv_aload_n hx hb dX6_product_0 rfl (lv_at hl 0 rfl) ?_
  refine lv_iload_n hx hb dX6_product_1 rfl (lv_at hl 1 rfl) ?_
  refine lv_iload_n hx hb dX6_product_2 rfl (lv_at hl 2 rfl) ?_
  refine lv_iload_n hx hb dX6_product_3 rfl (lv_at hl 3 rfl) ?_
  have hPc := hP.sub (ws' := [(mo, .inr (8, [.int (nI th), .ref ra, .ref ca, .ref ha, .int (nI kp), .ref ba, .int (nI hd), .ref wa]))]) [0] rfl
  have hDc := hD.sub (ws' := [(mo, .inr (8, [.int (nI th), .ref ra, .ref ca, .ref ha, .int (nI kp), .ref ba, .int (nI hd), .ref wa]))]) [0] (by decide) rfl
  have hKc := hK.sub (tys' := []) [] rfl
  have hFc := va_free (wc := [(mo, .inr (8, [.int (nI th), .ref ra, .ref ca, .ref ha, .int (nI kp), .ref ba, .int (nI hd), .ref wa]))]) hD hS hA [0] rfl
  refine va_calli (va_runV (As := [.int (nI j), .int (nI k), .int (nI i)]) (rest := []) ⟨hx, hb, hml, hown, hts⟩ (c_X6_areNone_ok l D s.heap.size mo ra ca ha ba wa kp hd th j k i (by omega) (by omega) (by omega)) (cwV 3 hts gX6_product_X6_areNone rfl rfl rfl (by decide +kernel) ⟨Nat.le_of_ble_eq_true rfl, Nat.le_of_ble_eq_true rfl⟩) ⟨(z_fb2), va_recv hK hP (ci := 8) (q0 := 0) rfl rfl, fun U hU hW => ⟨rfl, by rw [hU], by rw [hU]; exact hPc, va_K.moved hW.alike hKc, hDc.weaken (fun _ _ _ _ => trivial)⟩⟩ rfl rfl hl.1 rfl (lv_room (Nat.le_of_ble_eq_true rfl)) dX6_product_4 ⟨Nat.le_of_ble_eq_true rfl, Nat.le_of_ble_eq_true rfl⟩) hS (fun q _ h => hFc q h) hFc (fun r4 u4 t H locs ht hvm e4 hB hz1 hk1 hS => ?_)
  obtain ⟨hP1, hK1, hD1⟩ := hB
  rw [ht] at hP1
  obtain ⟨hP, hD⟩ := va_join (wr := [(ra, .inl (kr, 8, .inl (aN rf))), (ca, .inl (kc, 8, .inl (aN cf))), (ha, .inl (kh, 8, .inl (aN hf)))]) (w1 := [(mo, .inr (8, [.int (nI 0), .ref ra, .ref ca, .ref ha, .int (nI kp), .ref ba, .int (nI hd), .ref wa]))]) hP hD [0] [1, 2, 3] rfl rfl (by decide) (by decide) hk1 hFc hP1 hD1
  have hP : va_P D vwCl [(ra, .inl (kr, 8, .inl (aN rf))), (ca, .inl (kc, 8, .inl (aN cf))), (ha, .inl (kh, 8, .inl (aN hf))), (mo, .inr (8, [.int (nI 0), .ref ra, .ref ca, .ref ha, .int (nI kp), .ref ba, .int (nI hd), .ref wa]))] H := hP
  have hD : va_D A [(ra, .inl (kr, 8, .inl (aN rf))), (ca, .inl (kc, 8, .inl (aN cf))), (ha, .inl (kh, 8, .inl (aN hf))), (mo, .inr (8, [.int (nI 0), .ref ra, .ref ca, .ref ha, .int (nI kp), .ref ba, .int (nI hd), .ref wa]))] := hD
  refine W.widen (k := 0) (n := 0) (Nat.le_of_ble_eq_true rfl) (Nat.le_of_ble_eq_true rfl) ?_
  subst e4
  have hr_j : rf j < 256 := hrf _ (by omega)
  have hr_k : rf k < 256 := hrf _ (by omega)
  have hr_i : rf i < 256 := hrf _ (by omega)
  refine z_beq (tgt := 14) hx hb dX6_product_7 (by decide) (fun c_7 => ?_) (fun c_7 => absurd c_7 (by decide))
  refine lv_aload_n hx hb dX6_product_14 rfl (lv_at hl 0 rfl) ?_
  refine lv_iload_n hx hb dX6_product_15 rfl (lv_at hl 1 rfl) ?_
  refine lv_aload_n hx hb dX6_product_16 rfl (lv_at hl 0 rfl) ?_
  refine va_get (D := D) (ci := 8) (v := .ref ra) (C := RX6) (T := TX6) (N := 8) hx hb hts nX6_product_inX6 hown hK hP 3 rfl rfl 1 (by decide) (hts (.fieldLink RX6 9 "GamefieldModel" "registers" "[I") (by decide +kernel)) (fun _ h9 => h9) rfl dX6_product_17 ?_
  refine lv_iload_n hx hb dX6_product_20 rfl (lv_at hl 2 rfl) ?_
  refine z_iald hx hb hK hP 0 0 rfl rfl (by omega) (by decide) dX6_product_21 ?_
  refine lv_aload_n hx hb dX6_product_22 rfl (lv_at hl 0 rfl) ?_
  refine va_get (D := D) (ci := 8) (v := .ref ra) (C := RX6) (T := TX6) (N := 8) hx hb hts nX6_product_inX6 hown hK hP 3 rfl rfl 1 (by decide) (hts (.fieldLink RX6 9 "GamefieldModel" "registers" "[I") (by decide +kernel)) (fun _ h9 => h9) rfl dX6_product_23 ?_
  refine lv_iload_n hx hb dX6_product_26 rfl (lv_at hl 3 rfl) ?_
  refine z_iald hx hb hK hP 0 0 rfl rfl (by omega) (by decide) dX6_product_27 ?_
  refine z_ci (va_runS (As := [.int (nI (rf k)), .int (nI (rf i))]) (rest := [.int (nI j), .ref mo]) ⟨hx, hb, hml, hown, hts⟩ (c_X6_productOf_256 l D (rf k) (rf i) (by omega) (by omega)) (va_cwS 2 hts gX6_product_X6_productOf rfl rfl rfl (by decide +kernel) ⟨Nat.le_of_ble_eq_true rfl, Nat.le_of_ble_eq_true rfl⟩) ⟨z_fb0, fun U hU hW => ⟨rfl, trivial⟩⟩ rfl rfl hl.1 rfl (lv_room (Nat.le_of_ble_eq_true rfl)) dX6_product_28 ⟨Nat.le_of_ble_eq_true rfl, Nat.le_of_ble_eq_true rfl⟩) (fun r28 e28 => ?_)
  subst e28
  have hn28 : np (rf k) (rf i) < 256 := np_lt (by omega) (by omega)
  have hPc := hP.sub (ws' := [(mo, .inr (8, [.int (nI 0), .ref ra, .ref ca, .ref ha, .int (nI kp), .ref ba, .int (nI hd), .ref wa])), (ra, .inl (kr, 8, .inl (aN rf))), (ca, .inl (kc, 8, .inl (aN cf))), (ha, .inl (kh, 8, .inl (aN hf)))]) [3, 0, 1, 2] rfl
  have hDc := hD.sub (ws' := [(mo, .inr (8, [.int (nI 0), .ref ra, .ref ca, .ref ha, .int (nI kp), .ref ba, .int (nI hd), .ref wa])), (ra, .inl (kr, 8, .inl (aN rf))), (ca, .inl (kc, 8, .inl (aN cf))), (ha, .inl (kh, 8, .inl (aN hf)))]) [3, 0, 1, 2] (by decide) rfl
  have hKc := hK.sub (tys' := [(kr, .int), (kc, .int), (kh, .int)]) [0, 1, 2] rfl
  have hFc := va_free (wc := [(mo, .inr (8, [.int (nI 0), .ref ra, .ref ca, .ref ha, .int (nI kp), .ref ba, .int (nI hd), .ref wa])), (ra, .inl (kr, 8, .inl (aN rf))), (ca, .inl (kc, 8, .inl (aN cf))), (ha, .inl (kh, 8, .inl (aN hf)))]) hD hS hA [3, 0, 1, 2] rfl
  refine va_calli (va_runV (As := [.int (nI j), .int (nI (np (rf k) (rf i)))]) (rest := []) ⟨hx, hb, hml, hown, hts⟩ (c_X6_becomes l D H.size mo ra ca ha ba wa kp hd kr kc kh 0 rf cf hf j (np (rf k) (rf i)) (by omega) (by omega) (by omega) (by omega)) (cwV 2 hts gX6_product_X6_becomes rfl rfl rfl (by decide +kernel) ⟨Nat.le_of_ble_eq_true rfl, Nat.le_of_ble_eq_true rfl⟩) ⟨(z_fb2), va_recv hK hP (ci := 8) (q0 := 3) rfl rfl, fun U hU hW => ⟨rfl, by rw [hU], by rw [hU]; exact hPc, va_K.moved hW.alike hKc, hDc.weaken (fun _ _ _ _ => trivial)⟩⟩ rfl rfl hl.1 rfl (lv_room (Nat.le_of_ble_eq_true rfl)) dX6_product_31 ⟨Nat.le_of_ble_eq_true rfl, Nat.le_of_ble_eq_true rfl⟩) hS (fun q _ h => hFc q h) hFc (fun r31 u31 t H locs ht hvm e31 hB hz1 hk1 hS => ?_)
  obtain ⟨hP1, hK1, hD1⟩ := hB
  rw [ht] at hP1
  obtain ⟨hP, hD⟩ := va_join (wr := []) (w1 := [(mo, .inr (8, [.int (nI 0), .ref ra, .ref ca, .ref ha, .int (nI (min kp 7 + 1)), .ref ba, .int (nI hd), .ref wa])), (ra, .inl (kr, 8, .inl (aN (va_up rf j (np (rf k) (rf i)))))), (ca, .inl (kc, 8, .inl (aN (rng cf kp j)))), (ha, .inl (kh, 8, .inl (aN (rng hf kp (rf j)))))]) hP hD [3, 0, 1, 2] [] rfl rfl (by decide) (by decide) hk1 hFc hP1 hD1
  have hP : va_P D vwCl [(mo, .inr (8, [.int (nI 0), .ref ra, .ref ca, .ref ha, .int (nI (min kp 7 + 1)), .ref ba, .int (nI hd), .ref wa])), (ra, .inl (kr, 8, .inl (aN (va_up rf j (np (rf k) (rf i)))))), (ca, .inl (kc, 8, .inl (aN (rng cf kp j)))), (ha, .inl (kh, 8, .inl (aN (rng hf kp (rf j)))))] H := hP
  have hD : va_D A [(mo, .inr (8, [.int (nI 0), .ref ra, .ref ca, .ref ha, .int (nI (min kp 7 + 1)), .ref ba, .int (nI hd), .ref wa])), (ra, .inl (kr, 8, .inl (aN (va_up rf j (np (rf k) (rf i)))))), (ca, .inl (kc, 8, .inl (aN (rng cf kp j)))), (ha, .inl (kh, 8, .inl (aN (rng hf kp (rf j)))))] := hD
  refine W.widen (k := 0) (n := 0) (Nat.le_of_ble_eq_true rfl) (Nat.le_of_ble_eq_true rfl) ?_
  subst e31
  have hP9 := hP.sub (ws' := [(mo, .inr (8, [.int (nI 0), .ref ra, .ref ca, .ref ha, .int (nI (min kp 7 + 1)), .ref ba, .int (nI hd), .ref wa])), (ra, .inl (kr, 8, .inl (aN (va_up rf j (np (rf k) (rf i)))))), (ca, .inl (kc, 8, .inl (aN (rng cf kp j)))), (ha, .inl (kh, 8, .inl (aN (rng hf kp (rf j)))))]) [0, 1, 2, 3] rfl
  have hD9 := hD.sub (ws' := [(mo, .inr (8, [.int (nI 0), .ref ra, .ref ca, .ref ha, .int (nI (min kp 7 + 1)), .ref ba, .int (nI hd), .ref wa])), (ra, .inl (kr, 8, .inl (aN (va_up rf j (np (rf k) (rf i)))))), (ca, .inl (kc, 8, .inl (aN (rng cf kp j)))), (ha, .inl (kh, 8, .inl (aN (rng hf kp (rf j)))))]) [0, 1, 2, 3] (by decide) rfl
  have hK9 := hK.sub (tys' := [(kr, .int), (kc, .int), (kh, .int)]) [0, 1, 2] rfl
  subst hAe
  refine W.widen (k := 0) (n := 0) (Nat.le_of_ble_eq_true rfl) (Nat.le_of_ble_eq_true rfl) ?_
  exact W.iret hx hb hr (fun t ht hW => ⟨⟨_, (), rfl, (rfl), by rw [ht]; exact hP9, va_K.moved hW.alike hK9, hD9⟩, hS.F ht⟩) hS.2.2 dX6_product_34
abbrev rm_c_X6_product_no : Room := { frames := 2, cells := 0, slots := 0, locals := 45 }
abbrev q_c_X6_product_no (D : va_G) (sz : Nat) (mo : Nat) (ra : Nat) (ca : Nat) (ha : Nat) (ba : Nat) (wa : Nat) (kp : Nat) (hd : Nat) (kr : ClassId) (kc : ClassId) (kh : ClassId) (th : Nat) (rf : Nat → Nat) (cf : Nat → Nat) (hf : Nat → Nat) (x0 : Int32) (x1 : Int32) (x2 : Int32) : Array Value → State → Outcome → State → Prop := va_Qi (fun r (_ : Unit) => r = (nI 0)) (fun (_ : Unit) t => va_P D vwCl [(mo, .inr (8, [.int (nI 1), .ref ra, .ref ca, .ref ha, .int (nI kp), .ref ba, .int (nI hd), .ref wa])), (ra, .inl (kr, 8, .inl (aN rf))), (ca, .inl (kc, 8, .inl (aN cf))), (ha, .inl (kh, 8, .inl (aN hf)))] t.heap ∧ va_K D vwCl [(kr, .int), (kc, .int), (kh, .int)] t ∧ va_D (va_A [(mo, .inr (8, [.int (nI th), .ref ra, .ref ca, .ref ha, .int (nI kp), .ref ba, .int (nI hd), .ref wa])), (ra, .inl (kr, 8, .inl (aN rf))), (ca, .inl (kc, 8, .inl (aN cf))), (ha, .inl (kh, 8, .inl (aN hf)))] sz) [(mo, .inr (8, [.int (nI 1), .ref ra, .ref ca, .ref ha, .int (nI kp), .ref ba, .int (nI hd), .ref wa])), (ra, .inl (kr, 8, .inl (aN rf))), (ca, .inl (kc, 8, .inl (aN cf))), (ha, .inl (kh, 8, .inl (aN hf)))]) (va_A [(mo, .inr (8, [.int (nI th), .ref ra, .ref ca, .ref ha, .int (nI kp), .ref ba, .int (nI hd), .ref wa])), (ra, .inl (kr, 8, .inl (aN rf))), (ca, .inl (kc, 8, .inl (aN cf))), (ha, .inl (kh, 8, .inl (aN hf)))] sz)
set_option maxHeartbeats 4000000 in
set_option maxRecDepth 100000 in
theorem c_X6_product_no (l : Launch) (D : va_G) (sz : Nat) (mo : Nat) (ra : Nat) (ca : Nat) (ha : Nat) (ba : Nat) (wa : Nat) (kp : Nat) (hd : Nat) (kr : ClassId) (kc : ClassId) (kh : ClassId) (th : Nat) (rf : Nat → Nat) (cf : Nat → Nat) (hf : Nat → Nat) (x0 : Int32) (x1 : Int32) (x2 : Int32) (hrf : ∀ k, k < 8 → rf k < 256) (hkp : kp ≤ 8) (hno : ok3 x0 x1 x2 = false) : Met l yX6_product wsX6_product rm_c_X6_product_no (va_Pc [.ref mo, .int x0, .int x1, .int x2] (fun U => U.heap.size = sz ∧ va_P D vwCl [(mo, .inr (8, [.int (nI th), .ref ra, .ref ca, .ref ha, .int (nI kp), .ref ba, .int (nI hd), .ref wa])), (ra, .inl (kr, 8, .inl (aN rf))), (ca, .inl (kc, 8, .inl (aN cf))), (ha, .inl (kh, 8, .inl (aN hf)))] U.heap ∧ va_K D vwCl [(kr, .int), (kc, .int), (kh, .int)] U ∧ va_D (fun _ => True) [(mo, .inr (8, [.int (nI th), .ref ra, .ref ca, .ref ha, .int (nI kp), .ref ba, .int (nI hd), .ref wa])), (ra, .inl (kr, 8, .inl (aN rf))), (ca, .inl (kc, 8, .inl (aN cf))), (ha, .inl (kh, 8, .inl (aN hf)))])) (q_c_X6_product_no D sz mo ra ca ha ba wa kp hd kr kc kh th rf cf hf x0 x1 x2) 0 0 (va_A [(mo, .inr (8, [.int (nI th), .ref ra, .ref ca, .ref ha, .int (nI kp), .ref ba, .int (nI hd), .ref wa])), (ra, .inl (kr, 8, .inl (aN rf))), (ca, .inl (kc, 8, .inl (aN cf))), (ha, .inl (kh, 8, .inl (aN hf)))] sz) := by
  refine Met.ofW (cc := cX6_product) (maxL := 4) (ret := (some .int)) (by decide) rfl ?_
  intro p e s m args below meth c s₁ B hml hv
  obtain ⟨hargs, hsz, hP, hK, hD0⟩ := hv
  have hx := B.exec
  have hb := B.bytes
  have hr := B.returns
  have hts := atoms_spec (ws := wsX6_product) B.pre
  have hown : s.vm.findClass RX6 = some m.cls := findClass_of_methodNamed B.named
  have hlocks := B.notSynchronized
  subst hsz
  have hD := hD0.self (sz := s.heap.size)
  generalize hAe : va_A [(mo, .inr (8, [.int (nI th), .ref ra, .ref ca, .ref ha, .int (nI kp), .ref ba, .int (nI hd), .ref wa])), (ra, .inl (kr, 8, .inl (aN rf))), (ca, .inl (kc, 8, .inl (aN cf))), (ha, .inl (kh, 8, .inl (aN hf)))] s.heap.size = A at hD ⊢
  have hA : ∀ q : Nat, s.heap.size ≤ q → A q := fun q h => by rw [← hAe]; exact Or.inr h
  have hS : va_S A s.heap s.heap [] := va_S.rf
  have hl := lv_entry ([.ref mo, .int x0, .int x1, .int x2]) (n := 4) (Nat.le_of_ble_eq_true rfl)
  refine W.eq (g2 := F0 m 0 (lg_sl ([.ref mo, .int x0, .int x1, .int x2]) ++ List.replicate (4 - (lg_sl ([.ref mo, .int x0, .int x1, .int x2])).length) Slot.unset).toArray []) (by rw [hargs]; exact lg_entry_eq _ _ _) ?_
  generalize (lg_sl ([.ref mo, .int x0, .int x1, .int x2]) ++ List.replicate (4 - (lg_sl ([.ref mo, .int x0, .int x1, .int x2])).length) Slot.unset).toArray = ls at hl ⊢
  have hl : lv_has ls 4 [(0, .ref mo), (1, .int x0), (2, .int x1), (3, .int x2)] := hl
  refine lv_aload_n hx hb dX6_product_0 rfl (lv_at hl 0 rfl) ?_
  refine lv_iload_n hx hb dX6_product_1 rfl (lv_at hl 1 rfl) ?_
  refine lv_iload_n hx hb dX6_product_2 rfl (lv_at hl 2 rfl) ?_
  refine lv_iload_n hx hb dX6_product_3 rfl (lv_at hl 3 rfl) ?_
  have hPc := hP.sub (ws' := [(mo, .inr (8, [.int (nI th), .ref ra, .ref ca, .ref ha, .int (nI kp), .ref ba, .int (nI hd), .ref wa]))]) [0] rfl
  have hDc := hD.sub (ws' := [(mo, .inr (8, [.int (nI th), .ref ra, .ref ca, .ref ha, .int (nI kp), .ref ba, .int (nI hd), .ref wa]))]) [0] (by decide) rfl
  have hKc := hK.sub (tys' := []) [] rfl
  have hFc := va_free (wc := [(mo, .inr (8, [.int (nI th), .ref ra, .ref ca, .ref ha, .int (nI kp), .ref ba, .int (nI hd), .ref wa]))]) hD hS hA [0] rfl
  refine va_calli (va_runV (As := [.int x0, .int x1, .int x2]) (rest := []) ⟨hx, hb, hml, hown, hts⟩ (c_X6_areNone_no l D s.heap.size mo ra ca ha ba wa kp hd th x0 x1 x2 (hno)) (cwV 3 hts gX6_product_X6_areNone rfl rfl rfl (by decide +kernel) ⟨Nat.le_of_ble_eq_true rfl, Nat.le_of_ble_eq_true rfl⟩) ⟨(z_fb2), va_recv hK hP (ci := 8) (q0 := 0) rfl rfl, fun U hU hW => ⟨rfl, by rw [hU], by rw [hU]; exact hPc, va_K.moved hW.alike hKc, hDc.weaken (fun _ _ _ _ => trivial)⟩⟩ rfl rfl hl.1 rfl (lv_room (Nat.le_of_ble_eq_true rfl)) dX6_product_4 ⟨Nat.le_of_ble_eq_true rfl, Nat.le_of_ble_eq_true rfl⟩) hS (fun q _ h => hFc q h) hFc (fun r4 u4 t H locs ht hvm e4 hB hz1 hk1 hS => ?_)
  obtain ⟨hP1, hK1, hD1⟩ := hB
  rw [ht] at hP1
  obtain ⟨hP, hD⟩ := va_join (wr := [(ra, .inl (kr, 8, .inl (aN rf))), (ca, .inl (kc, 8, .inl (aN cf))), (ha, .inl (kh, 8, .inl (aN hf)))]) (w1 := [(mo, .inr (8, [.int (nI 1), .ref ra, .ref ca, .ref ha, .int (nI kp), .ref ba, .int (nI hd), .ref wa]))]) hP hD [0] [1, 2, 3] rfl rfl (by decide) (by decide) hk1 hFc hP1 hD1
  have hP : va_P D vwCl [(ra, .inl (kr, 8, .inl (aN rf))), (ca, .inl (kc, 8, .inl (aN cf))), (ha, .inl (kh, 8, .inl (aN hf))), (mo, .inr (8, [.int (nI 1), .ref ra, .ref ca, .ref ha, .int (nI kp), .ref ba, .int (nI hd), .ref wa]))] H := hP
  have hD : va_D A [(ra, .inl (kr, 8, .inl (aN rf))), (ca, .inl (kc, 8, .inl (aN cf))), (ha, .inl (kh, 8, .inl (aN hf))), (mo, .inr (8, [.int (nI 1), .ref ra, .ref ca, .ref ha, .int (nI kp), .ref ba, .int (nI hd), .ref wa]))] := hD
  refine W.widen (k := 0) (n := 0) (Nat.le_of_ble_eq_true rfl) (Nat.le_of_ble_eq_true rfl) ?_
  subst e4
  refine z_beq (tgt := 14) hx hb dX6_product_7 (by decide) (fun c_7 => absurd c_7 (by decide)) (fun c_7 => ?_)
  refine lv_iconst (v := nI 0) hx hb dX6_product_10 zki_0 ?_
  refine lv_goto (tgt := 34) hx hb dX6_product_11 (by decide) ?_
  have hP9 := hP.sub (ws' := [(mo, .inr (8, [.int (nI 1), .ref ra, .ref ca, .ref ha, .int (nI kp), .ref ba, .int (nI hd), .ref wa])), (ra, .inl (kr, 8, .inl (aN rf))), (ca, .inl (kc, 8, .inl (aN cf))), (ha, .inl (kh, 8, .inl (aN hf)))]) [3, 0, 1, 2] rfl
  have hD9 := hD.sub (ws' := [(mo, .inr (8, [.int (nI 1), .ref ra, .ref ca, .ref ha, .int (nI kp), .ref ba, .int (nI hd), .ref wa])), (ra, .inl (kr, 8, .inl (aN rf))), (ca, .inl (kc, 8, .inl (aN cf))), (ha, .inl (kh, 8, .inl (aN hf)))]) [3, 0, 1, 2] (by decide) rfl
  have hK9 := hK.sub (tys' := [(kr, .int), (kc, .int), (kh, .int)]) [0, 1, 2] rfl
  subst hAe
  refine W.widen (k := 0) (n := 0) (Nat.le_of_ble_eq_true rfl) (Nat.le_of_ble_eq_true rfl) ?_
  exact W.iret hx hb hr (fun t ht hW => ⟨⟨_, (), rfl, (rfl), by rw [ht]; exact hP9, va_K.moved hW.alike hK9, hD9⟩, hS.F ht⟩) hS.2.2 dX6_product_34
abbrev rm_c_X6_root_ok : Room := { frames := 5, cells := 0, slots := 0, locals := 137 }
abbrev q_c_X6_root_ok (D : va_G) (sz : Nat) (mo : Nat) (ra : Nat) (ca : Nat) (ha : Nat) (ba : Nat) (wa : Nat) (kp : Nat) (hd : Nat) (kr : ClassId) (kc : ClassId) (kh : ClassId) (th : Nat) (rf : Nat → Nat) (cf : Nat → Nat) (hf : Nat → Nat) (j : Nat) (k : Nat) : Array Value → State → Outcome → State → Prop := va_Qi (fun r (_ : Unit) => r = (nI (rt (rf k)))) (fun (_ : Unit) t => va_P D vwCl [(mo, .inr (8, [.int (nI 0), .ref ra, .ref ca, .ref ha, .int (nI (min kp 7 + 1)), .ref ba, .int (nI hd), .ref wa])), (ra, .inl (kr, 8, .inl (aN (va_up rf j (rt (rf k)))))), (ca, .inl (kc, 8, .inl (aN (rng cf kp j)))), (ha, .inl (kh, 8, .inl (aN (rng hf kp (rf j)))))] t.heap ∧ va_K D vwCl [(kr, .int), (kc, .int), (kh, .int)] t ∧ va_D (va_A [(mo, .inr (8, [.int (nI th), .ref ra, .ref ca, .ref ha, .int (nI kp), .ref ba, .int (nI hd), .ref wa])), (ra, .inl (kr, 8, .inl (aN rf))), (ca, .inl (kc, 8, .inl (aN cf))), (ha, .inl (kh, 8, .inl (aN hf)))] sz) [(mo, .inr (8, [.int (nI 0), .ref ra, .ref ca, .ref ha, .int (nI (min kp 7 + 1)), .ref ba, .int (nI hd), .ref wa])), (ra, .inl (kr, 8, .inl (aN (va_up rf j (rt (rf k)))))), (ca, .inl (kc, 8, .inl (aN (rng cf kp j)))), (ha, .inl (kh, 8, .inl (aN (rng hf kp (rf j)))))]) (va_A [(mo, .inr (8, [.int (nI th), .ref ra, .ref ca, .ref ha, .int (nI kp), .ref ba, .int (nI hd), .ref wa])), (ra, .inl (kr, 8, .inl (aN rf))), (ca, .inl (kc, 8, .inl (aN cf))), (ha, .inl (kh, 8, .inl (aN hf)))] sz)
set_option maxHeartbeats 4000000 in
set_option maxRecDepth 100000 in
theorem c_X6_root_ok (l : Launch) (D : va_G) (sz : Nat) (mo : Nat) (ra : Nat) (ca : Nat) (ha : Nat) (ba : Nat) (wa : Nat) (kp : Nat) (hd : Nat) (kr : ClassId) (kc : ClassId) (kh : ClassId) (th : Nat) (rf : Nat → Nat) (cf : Nat → Nat) (hf : Nat → Nat) (j : Nat) (k : Nat) (hrf : ∀ k, k < 8 → rf k < 256) (hkp : kp ≤ 8) (hj : j < 8) (hk : k < 8) : Met l yX6_root wsX6_root rm_c_X6_root_ok (va_Pc [.ref mo, .int (nI j), .int (nI k)] (fun U => U.heap.size = sz ∧ va_P D vwCl [(mo, .inr (8, [.int (nI th), .ref ra, .ref ca, .ref ha, .int (nI kp), .ref ba, .int (nI hd), .ref wa])), (ra, .inl (kr, 8, .inl (aN rf))), (ca, .inl (kc, 8, .inl (aN cf))), (ha, .inl (kh, 8, .inl (aN hf)))] U.heap ∧ va_K D vwCl [(kr, .int), (kc, .int), (kh, .int)] U ∧ va_D (fun _ => True) [(mo, .inr (8, [.int (nI th), .ref ra, .ref ca, .ref ha, .int (nI kp), .ref ba, .int (nI hd), .ref wa])), (ra, .inl (kr, 8, .inl (aN rf))), (ca, .inl (kc, 8, .inl (aN cf))), (ha, .inl (kh, 8, .inl (aN hf)))])) (q_c_X6_root_ok D sz mo ra ca ha ba wa kp hd kr kc kh th rf cf hf j k) 0 0 (va_A [(mo, .inr (8, [.int (nI th), .ref ra, .ref ca, .ref ha, .int (nI kp), .ref ba, .int (nI hd), .ref wa])), (ra, .inl (kr, 8, .inl (aN rf))), (ca, .inl (kc, 8, .inl (aN cf))), (ha, .inl (kh, 8, .inl (aN hf)))] sz) := by
  refine Met.ofW (cc := cX6_root) (maxL := 3) (ret := (some .int)) (by decide) rfl ?_
  intro p e s m args below meth c s₁ B hml hv
  obtain ⟨hargs, hsz, hP, hK, hD0⟩ := hv
  have hx := B.exec
  have hb := B.bytes
  have hr := B.returns
  have hts := atoms_spec (ws := wsX6_root) B.pre
  have hown : s.vm.findClass RX6 = some m.cls := findClass_of_methodNamed B.named
  have hlocks := B.notSynchronized
  subst hsz
  have hD := hD0.self (sz := s.heap.size)
  generalize hAe : va_A [(mo, .inr (8, [.int (nI th), .ref ra, .ref ca, .ref ha, .int (nI kp), .ref ba, .int (nI hd), .ref wa])), (ra, .inl (kr, 8, .inl (aN rf))), (ca, .inl (kc, 8, .inl (aN cf))), (ha, .inl (kh, 8, .inl (aN hf)))] s.heap.size = A at hD ⊢
  have hA : ∀ q : Nat, s.heap.size ≤ q → A q := fun q h => by rw [← hAe]; exact Or.inr h
  have hS : va_S A s.heap s.heap [] := va_S.rf
  have hl := lv_entry ([.ref mo, .int (nI j), .int (nI k)]) (n := 3) (Nat.le_of_ble_eq_true rfl)
  refine W.eq (g2 := F0 m 0 (lg_sl ([.ref mo, .int (nI j), .int (nI k)]) ++ List.replicate (3 - (lg_sl ([.ref mo, .int (nI j), .int (nI k)])).length) Slot.unset).toArray []) (by rw [hargs]; exact lg_entry_eq _ _ _) ?_
  generalize (lg_sl ([.ref mo, .int (nI j), .int (nI k)]) ++ List.replicate (3 - (lg_sl ([.ref mo, .int (nI j), .int (nI k)])).length) Slot.unset).toArray = ls at hl ⊢
  have hl : lv_has ls 3 [(0, .ref mo), (1, .int (nI j)), (2, .int (nI k))] := hl
  refine lv_aload_n hx hb dX6_root_0 rfl (lv_at hl 0 rfl) ?_
  refine lv_iload_n hx hb dX6_root_1 rfl (lv_at hl 1 rfl) ?_
  refine lv_iload_n hx hb dX6_root_2 rfl (lv_at hl 2 rfl) ?_
  refine lv_iconst (v := nI 0) hx hb dX6_root_3 zki_0 ?_
  have hPc := hP.sub (ws' := [(mo, .inr (8, [.int (nI th), .ref ra, .ref ca, .ref ha, .int (nI kp), .ref ba, .int (nI hd), .ref wa]))]) [0] rfl
  have hDc := hD.sub (ws' := [(mo, .inr (8, [.int (nI th), .ref ra, .ref ca, .ref ha, .int (nI kp), .ref ba, .int (nI hd), .ref wa]))]) [0] (by decide) rfl
  have hKc := hK.sub (tys' := []) [] rfl
  have hFc := va_free (wc := [(mo, .inr (8, [.int (nI th), .ref ra, .ref ca, .ref ha, .int (nI kp), .ref ba, .int (nI hd), .ref wa]))]) hD hS hA [0] rfl
  refine va_calli (va_runV (As := [.int (nI j), .int (nI k), .int (nI 0)]) (rest := []) ⟨hx, hb, hml, hown, hts⟩ (c_X6_areNone_ok l D s.heap.size mo ra ca ha ba wa kp hd th j k 0 (by omega) (by omega) (by omega)) (cwV 3 hts gX6_root_X6_areNone rfl rfl rfl (by decide +kernel) ⟨Nat.le_of_ble_eq_true rfl, Nat.le_of_ble_eq_true rfl⟩) ⟨(z_fb2), va_recv hK hP (ci := 8) (q0 := 0) rfl rfl, fun U hU hW => ⟨rfl, by rw [hU], by rw [hU]; exact hPc, va_K.moved hW.alike hKc, hDc.weaken (fun _ _ _ _ => trivial)⟩⟩ rfl rfl hl.1 rfl (lv_room (Nat.le_of_ble_eq_true rfl)) dX6_root_4 ⟨Nat.le_of_ble_eq_true rfl, Nat.le_of_ble_eq_true rfl⟩) hS (fun q _ h => hFc q h) hFc (fun r4 u4 t H locs ht hvm e4 hB hz1 hk1 hS => ?_)
  obtain ⟨hP1, hK1, hD1⟩ := hB
  rw [ht] at hP1
  obtain ⟨hP, hD⟩ := va_join (wr := [(ra, .inl (kr, 8, .inl (aN rf))), (ca, .inl (kc, 8, .inl (aN cf))), (ha, .inl (kh, 8, .inl (aN hf)))]) (w1 := [(mo, .inr (8, [.int (nI 0), .ref ra, .ref ca, .ref ha, .int (nI kp), .ref ba, .int (nI hd), .ref wa]))]) hP hD [0] [1, 2, 3] rfl rfl (by decide) (by decide) hk1 hFc hP1 hD1
  have hP : va_P D vwCl [(ra, .inl (kr, 8, .inl (aN rf))), (ca, .inl (kc, 8, .inl (aN cf))), (ha, .inl (kh, 8, .inl (aN hf))), (mo, .inr (8, [.int (nI 0), .ref ra, .ref ca, .ref ha, .int (nI kp), .ref ba, .int (nI hd), .ref wa]))] H := hP
  have hD : va_D A [(ra, .inl (kr, 8, .inl (aN rf))), (ca, .inl (kc, 8, .inl (aN cf))), (ha, .inl (kh, 8, .inl (aN hf))), (mo, .inr (8, [.int (nI 0), .ref ra, .ref ca, .ref ha, .int (nI kp), .ref ba, .int (nI hd), .ref wa]))] := hD
  refine W.widen (k := 0) (n := 0) (Nat.le_of_ble_eq_true rfl) (Nat.le_of_ble_eq_true rfl) ?_
  subst e4
  have hr_j : rf j < 256 := hrf _ (by omega)
  have hr_k : rf k < 256 := hrf _ (by omega)
  refine z_beq (tgt := 14) hx hb dX6_root_7 (by decide) (fun c_7 => ?_) (fun c_7 => absurd c_7 (by decide))
  refine lv_aload_n hx hb dX6_root_14 rfl (lv_at hl 0 rfl) ?_
  refine lv_iload_n hx hb dX6_root_15 rfl (lv_at hl 1 rfl) ?_
  refine lv_aload_n hx hb dX6_root_16 rfl (lv_at hl 0 rfl) ?_
  refine va_get (D := D) (ci := 8) (v := .ref ra) (C := RX6) (T := TX6) (N := 8) hx hb hts nX6_root_inX6 hown hK hP 3 rfl rfl 1 (by decide) (hts (.fieldLink RX6 9 "GamefieldModel" "registers" "[I") (by decide +kernel)) (fun _ h9 => h9) rfl dX6_root_17 ?_
  refine lv_iload_n hx hb dX6_root_20 rfl (lv_at hl 2 rfl) ?_
  refine z_iald hx hb hK hP 0 0 rfl rfl (by omega) (by decide) dX6_root_21 ?_
  refine z_ci (va_runS (As := [.int (nI (rf k))]) (rest := [.int (nI j), .ref mo]) ⟨hx, hb, hml, hown, hts⟩ (c_X6_rootOf l D (rf k) (by omega)) (va_cwS 1 hts gX6_root_X6_rootOf rfl rfl rfl (by decide +kernel) ⟨Nat.le_of_ble_eq_true rfl, Nat.le_of_ble_eq_true rfl⟩) ⟨z_fb0, fun U hU hW => ⟨rfl, trivial⟩⟩ rfl rfl hl.1 rfl (lv_room (Nat.le_of_ble_eq_true rfl)) dX6_root_22 ⟨Nat.le_of_ble_eq_true rfl, Nat.le_of_ble_eq_true rfl⟩) (fun r22 e22 => ?_)
  subst e22
  have hn22 : rt (rf k) < 256 := rt_lt (by omega)
  have hPc := hP.sub (ws' := [(mo, .inr (8, [.int (nI 0), .ref ra, .ref ca, .ref ha, .int (nI kp), .ref ba, .int (nI hd), .ref wa])), (ra, .inl (kr, 8, .inl (aN rf))), (ca, .inl (kc, 8, .inl (aN cf))), (ha, .inl (kh, 8, .inl (aN hf)))]) [3, 0, 1, 2] rfl
  have hDc := hD.sub (ws' := [(mo, .inr (8, [.int (nI 0), .ref ra, .ref ca, .ref ha, .int (nI kp), .ref ba, .int (nI hd), .ref wa])), (ra, .inl (kr, 8, .inl (aN rf))), (ca, .inl (kc, 8, .inl (aN cf))), (ha, .inl (kh, 8, .inl (aN hf)))]) [3, 0, 1, 2] (by decide) rfl
  have hKc := hK.sub (tys' := [(kr, .int), (kc, .int), (kh, .int)]) [0, 1, 2] rfl
  have hFc := va_free (wc := [(mo, .inr (8, [.int (nI 0), .ref ra, .ref ca, .ref ha, .int (nI kp), .ref ba, .int (nI hd), .ref wa])), (ra, .inl (kr, 8, .inl (aN rf))), (ca, .inl (kc, 8, .inl (aN cf))), (ha, .inl (kh, 8, .inl (aN hf)))]) hD hS hA [3, 0, 1, 2] rfl
  refine va_calli (va_runV (As := [.int (nI j), .int (nI (rt (rf k)))]) (rest := []) ⟨hx, hb, hml, hown, hts⟩ (c_X6_becomes l D H.size mo ra ca ha ba wa kp hd kr kc kh 0 rf cf hf j (rt (rf k)) (by omega) (by omega) (by omega) (by omega)) (cwV 2 hts gX6_root_X6_becomes rfl rfl rfl (by decide +kernel) ⟨Nat.le_of_ble_eq_true rfl, Nat.le_of_ble_eq_true rfl⟩) ⟨(z_fb2), va_recv hK hP (ci := 8) (q0 := 3) rfl rfl, fun U hU hW => ⟨rfl, by rw [hU], by rw [hU]; exact hPc, va_K.moved hW.alike hKc, hDc.weaken (fun _ _ _ _ => trivial)⟩⟩ rfl rfl hl.1 rfl (lv_room (Nat.le_of_ble_eq_true rfl)) dX6_root_25 ⟨Nat.le_of_ble_eq_true rfl, Nat.le_of_ble_eq_true rfl⟩) hS (fun q _ h => hFc q h) hFc (fun r25 u25 t H locs ht hvm e25 hB hz1 hk1 hS => ?_)
  obtain ⟨hP1, hK1, hD1⟩ := hB
  rw [ht] at hP1
  obtain ⟨hP, hD⟩ := va_join (wr := []) (w1 := [(mo, .inr (8, [.int (nI 0), .ref ra, .ref ca, .ref ha, .int (nI (min kp 7 + 1)), .ref ba, .int (nI hd), .ref wa])), (ra, .inl (kr, 8, .inl (aN (va_up rf j (rt (rf k)))))), (ca, .inl (kc, 8, .inl (aN (rng cf kp j)))), (ha, .inl (kh, 8, .inl (aN (rng hf kp (rf j)))))]) hP hD [3, 0, 1, 2] [] rfl rfl (by decide) (by decide) hk1 hFc hP1 hD1
  have hP : va_P D vwCl [(mo, .inr (8, [.int (nI 0), .ref ra, .ref ca, .ref ha, .int (nI (min kp 7 + 1)), .ref ba, .int (nI hd), .ref wa])), (ra, .inl (kr, 8, .inl (aN (va_up rf j (rt (rf k)))))), (ca, .inl (kc, 8, .inl (aN (rng cf kp j)))), (ha, .inl (kh, 8, .inl (aN (rng hf kp (rf j)))))] H := hP
  have hD : va_D A [(mo, .inr (8, [.int (nI 0), .ref ra, .ref ca, .ref ha, .int (nI (min kp 7 + 1)), .ref ba, .int (nI hd), .ref wa])), (ra, .inl (kr, 8, .inl (aN (va_up rf j (rt (rf k)))))), (ca, .inl (kc, 8, .inl (aN (rng cf kp j)))), (ha, .inl (kh, 8, .inl (aN (rng hf kp (rf j)))))] := hD
  refine W.widen (k := 0) (n := 0) (Nat.le_of_ble_eq_true rfl) (Nat.le_of_ble_eq_true rfl) ?_
  subst e25
  have hP9 := hP.sub (ws' := [(mo, .inr (8, [.int (nI 0), .ref ra, .ref ca, .ref ha, .int (nI (min kp 7 + 1)), .ref ba, .int (nI hd), .ref wa])), (ra, .inl (kr, 8, .inl (aN (va_up rf j (rt (rf k)))))), (ca, .inl (kc, 8, .inl (aN (rng cf kp j)))), (ha, .inl (kh, 8, .inl (aN (rng hf kp (rf j)))))]) [0, 1, 2, 3] rfl
  have hD9 := hD.sub (ws' := [(mo, .inr (8, [.int (nI 0), .ref ra, .ref ca, .ref ha, .int (nI (min kp 7 + 1)), .ref ba, .int (nI hd), .ref wa])), (ra, .inl (kr, 8, .inl (aN (va_up rf j (rt (rf k)))))), (ca, .inl (kc, 8, .inl (aN (rng cf kp j)))), (ha, .inl (kh, 8, .inl (aN (rng hf kp (rf j)))))]) [0, 1, 2, 3] (by decide) rfl
  have hK9 := hK.sub (tys' := [(kr, .int), (kc, .int), (kh, .int)]) [0, 1, 2] rfl
  subst hAe
  refine W.widen (k := 0) (n := 0) (Nat.le_of_ble_eq_true rfl) (Nat.le_of_ble_eq_true rfl) ?_
  exact W.iret hx hb hr (fun t ht hW => ⟨⟨_, (), rfl, (rfl), by rw [ht]; exact hP9, va_K.moved hW.alike hK9, hD9⟩, hS.F ht⟩) hS.2.2 dX6_root_28
abbrev rm_c_X6_root_no : Room := { frames := 2, cells := 0, slots := 0, locals := 45 }
abbrev q_c_X6_root_no (D : va_G) (sz : Nat) (mo : Nat) (ra : Nat) (ca : Nat) (ha : Nat) (ba : Nat) (wa : Nat) (kp : Nat) (hd : Nat) (kr : ClassId) (kc : ClassId) (kh : ClassId) (th : Nat) (rf : Nat → Nat) (cf : Nat → Nat) (hf : Nat → Nat) (x0 : Int32) (x1 : Int32) : Array Value → State → Outcome → State → Prop := va_Qi (fun r (_ : Unit) => r = (nI 0)) (fun (_ : Unit) t => va_P D vwCl [(mo, .inr (8, [.int (nI 1), .ref ra, .ref ca, .ref ha, .int (nI kp), .ref ba, .int (nI hd), .ref wa])), (ra, .inl (kr, 8, .inl (aN rf))), (ca, .inl (kc, 8, .inl (aN cf))), (ha, .inl (kh, 8, .inl (aN hf)))] t.heap ∧ va_K D vwCl [(kr, .int), (kc, .int), (kh, .int)] t ∧ va_D (va_A [(mo, .inr (8, [.int (nI th), .ref ra, .ref ca, .ref ha, .int (nI kp), .ref ba, .int (nI hd), .ref wa])), (ra, .inl (kr, 8, .inl (aN rf))), (ca, .inl (kc, 8, .inl (aN cf))), (ha, .inl (kh, 8, .inl (aN hf)))] sz) [(mo, .inr (8, [.int (nI 1), .ref ra, .ref ca, .ref ha, .int (nI kp), .ref ba, .int (nI hd), .ref wa])), (ra, .inl (kr, 8, .inl (aN rf))), (ca, .inl (kc, 8, .inl (aN cf))), (ha, .inl (kh, 8, .inl (aN hf)))]) (va_A [(mo, .inr (8, [.int (nI th), .ref ra, .ref ca, .ref ha, .int (nI kp), .ref ba, .int (nI hd), .ref wa])), (ra, .inl (kr, 8, .inl (aN rf))), (ca, .inl (kc, 8, .inl (aN cf))), (ha, .inl (kh, 8, .inl (aN hf)))] sz)
set_option maxHeartbeats 4000000 in
set_option maxRecDepth 100000 in
theorem c_X6_root_no (l : Launch) (D : va_G) (sz : Nat) (mo : Nat) (ra : Nat) (ca : Nat) (ha : Nat) (ba : Nat) (wa : Nat) (kp : Nat) (hd : Nat) (kr : ClassId) (kc : ClassId) (kh : ClassId) (th : Nat) (rf : Nat → Nat) (cf : Nat → Nat) (hf : Nat → Nat) (x0 : Int32) (x1 : Int32) (hrf : ∀ k, k < 8 → rf k < 256) (hkp : kp ≤ 8) (hno : (inN 8 x0 && inN 8 x1) = false) : Met l yX6_root wsX6_root rm_c_X6_root_no (va_Pc [.ref mo, .int x0, .int x1] (fun U => U.heap.size = sz ∧ va_P D vwCl [(mo, .inr (8, [.int (nI th), .ref ra, .ref ca, .ref ha, .int (nI kp), .ref ba, .int (nI hd), .ref wa])), (ra, .inl (kr, 8, .inl (aN rf))), (ca, .inl (kc, 8, .inl (aN cf))), (ha, .inl (kh, 8, .inl (aN hf)))] U.heap ∧ va_K D vwCl [(kr, .int), (kc, .int), (kh, .int)] U ∧ va_D (fun _ => True) [(mo, .inr (8, [.int (nI th), .ref ra, .ref ca, .ref ha, .int (nI kp), .ref ba, .int (nI hd), .ref wa])), (ra, .inl (kr, 8, .inl (aN rf))), (ca, .inl (kc, 8, .inl (aN cf))), (ha, .inl (kh, 8, .inl (aN hf)))])) (q_c_X6_root_no D sz mo ra ca ha ba wa kp hd kr kc kh th rf cf hf x0 x1) 0 0 (va_A [(mo, .inr (8, [.int (nI th), .ref ra, .ref ca, .ref ha, .int (nI kp), .ref ba, .int (nI hd), .ref wa])), (ra, .inl (kr, 8, .inl (aN rf))), (ca, .inl (kc, 8, .inl (aN cf))), (ha, .inl (kh, 8, .inl (aN hf)))] sz) := by
  refine Met.ofW (cc := cX6_root) (maxL := 3) (ret := (some .int)) (by decide) rfl ?_
  intro p e s m args below meth c s₁ B hml hv
  obtain ⟨hargs, hsz, hP, hK, hD0⟩ := hv
  have hx := B.exec
  have hb := B.bytes
  have hr := B.returns
  have hts := atoms_spec (ws := wsX6_root) B.pre
  have hown : s.vm.findClass RX6 = some m.cls := findClass_of_methodNamed B.named
  have hlocks := B.notSynchronized
  subst hsz
  have hD := hD0.self (sz := s.heap.size)
  generalize hAe : va_A [(mo, .inr (8, [.int (nI th), .ref ra, .ref ca, .ref ha, .int (nI kp), .ref ba, .int (nI hd), .ref wa])), (ra, .inl (kr, 8, .inl (aN rf))), (ca, .inl (kc, 8, .inl (aN cf))), (ha, .inl (kh, 8, .inl (aN hf)))] s.heap.size = A at hD ⊢
  have hA : ∀ q : Nat, s.heap.size ≤ q → A q := fun q h => by rw [← hAe]; exact Or.inr h
  have hS : va_S A s.heap s.heap [] := va_S.rf
  have hl := lv_entry ([.ref mo, .int x0, .int x1]) (n := 3) (Nat.le_of_ble_eq_true rfl)
  refine W.eq (g2 := F0 m 0 (lg_sl ([.ref mo, .int x0, .int x1]) ++ List.replicate (3 - (lg_sl ([.ref mo, .int x0, .int x1])).length) Slot.unset).toArray []) (by rw [hargs]; exact lg_entry_eq _ _ _) ?_
  generalize (lg_sl ([.ref mo, .int x0, .int x1]) ++ List.replicate (3 - (lg_sl ([.ref mo, .int x0, .int x1])).length) Slot.unset).toArray = ls at hl ⊢
  have hl : lv_has ls 3 [(0, .ref mo), (1, .int x0), (2, .int x1)] := hl
  refine lv_aload_n hx hb dX6_root_0 rfl (lv_at hl 0 rfl) ?_
  refine lv_iload_n hx hb dX6_root_1 rfl (lv_at hl 1 rfl) ?_
  refine lv_iload_n hx hb dX6_root_2 rfl (lv_at hl 2 rfl) ?_
  refine lv_iconst (v := nI 0) hx hb dX6_root_3 zki_0 ?_
  have hPc := hP.sub (ws' := [(mo, .inr (8, [.int (nI th), .ref ra, .ref ca, .ref ha, .int (nI kp), .ref ba, .int (nI hd), .ref wa]))]) [0] rfl
  have hDc := hD.sub (ws' := [(mo, .inr (8, [.int (nI th), .ref ra, .ref ca, .ref ha, .int (nI kp), .ref ba, .int (nI hd), .ref wa]))]) [0] (by decide) rfl
  have hKc := hK.sub (tys' := []) [] rfl
  have hFc := va_free (wc := [(mo, .inr (8, [.int (nI th), .ref ra, .ref ca, .ref ha, .int (nI kp), .ref ba, .int (nI hd), .ref wa]))]) hD hS hA [0] rfl
  refine va_calli (va_runV (As := [.int x0, .int x1, .int (nI 0)]) (rest := []) ⟨hx, hb, hml, hown, hts⟩ (c_X6_areNone_no l D s.heap.size mo ra ca ha ba wa kp hd th x0 x1 (nI 0) (by rw [ok3_2]; exact hno)) (cwV 3 hts gX6_root_X6_areNone rfl rfl rfl (by decide +kernel) ⟨Nat.le_of_ble_eq_true rfl, Nat.le_of_ble_eq_true rfl⟩) ⟨(z_fb2), va_recv hK hP (ci := 8) (q0 := 0) rfl rfl, fun U hU hW => ⟨rfl, by rw [hU], by rw [hU]; exact hPc, va_K.moved hW.alike hKc, hDc.weaken (fun _ _ _ _ => trivial)⟩⟩ rfl rfl hl.1 rfl (lv_room (Nat.le_of_ble_eq_true rfl)) dX6_root_4 ⟨Nat.le_of_ble_eq_true rfl, Nat.le_of_ble_eq_true rfl⟩) hS (fun q _ h => hFc q h) hFc (fun r4 u4 t H locs ht hvm e4 hB hz1 hk1 hS => ?_)
  obtain ⟨hP1, hK1, hD1⟩ := hB
  rw [ht] at hP1
  obtain ⟨hP, hD⟩ := va_join (wr := [(ra, .inl (kr, 8, .inl (aN rf))), (ca, .inl (kc, 8, .inl (aN cf))), (ha, .inl (kh, 8, .inl (aN hf)))]) (w1 := [(mo, .inr (8, [.int (nI 1), .ref ra, .ref ca, .ref ha, .int (nI kp), .ref ba, .int (nI hd), .ref wa]))]) hP hD [0] [1, 2, 3] rfl rfl (by decide) (by decide) hk1 hFc hP1 hD1
  have hP : va_P D vwCl [(ra, .inl (kr, 8, .inl (aN rf))), (ca, .inl (kc, 8, .inl (aN cf))), (ha, .inl (kh, 8, .inl (aN hf))), (mo, .inr (8, [.int (nI 1), .ref ra, .ref ca, .ref ha, .int (nI kp), .ref ba, .int (nI hd), .ref wa]))] H := hP
  have hD : va_D A [(ra, .inl (kr, 8, .inl (aN rf))), (ca, .inl (kc, 8, .inl (aN cf))), (ha, .inl (kh, 8, .inl (aN hf))), (mo, .inr (8, [.int (nI 1), .ref ra, .ref ca, .ref ha, .int (nI kp), .ref ba, .int (nI hd), .ref wa]))] := hD
  refine W.widen (k := 0) (n := 0) (Nat.le_of_ble_eq_true rfl) (Nat.le_of_ble_eq_true rfl) ?_
  subst e4
  refine z_beq (tgt := 14) hx hb dX6_root_7 (by decide) (fun c_7 => absurd c_7 (by decide)) (fun c_7 => ?_)
  refine lv_iconst (v := nI 0) hx hb dX6_root_10 zki_0 ?_
  refine lv_goto (tgt := 28) hx hb dX6_root_11 (by decide) ?_
  have hP9 := hP.sub (ws' := [(mo, .inr (8, [.int (nI 1), .ref ra, .ref ca, .ref ha, .int (nI kp), .ref ba, .int (nI hd), .ref wa])), (ra, .inl (kr, 8, .inl (aN rf))), (ca, .inl (kc, 8, .inl (aN cf))), (ha, .inl (kh, 8, .inl (aN hf)))]) [3, 0, 1, 2] rfl
  have hD9 := hD.sub (ws' := [(mo, .inr (8, [.int (nI 1), .ref ra, .ref ca, .ref ha, .int (nI kp), .ref ba, .int (nI hd), .ref wa])), (ra, .inl (kr, 8, .inl (aN rf))), (ca, .inl (kc, 8, .inl (aN cf))), (ha, .inl (kh, 8, .inl (aN hf)))]) [3, 0, 1, 2] (by decide) rfl
  have hK9 := hK.sub (tys' := [(kr, .int), (kc, .int), (kh, .int)]) [0, 1, 2] rfl
  subst hAe
  refine W.widen (k := 0) (n := 0) (Nat.le_of_ble_eq_true rfl) (Nat.le_of_ble_eq_true rfl) ?_
  exact W.iret hx hb hr (fun t ht hW => ⟨⟨_, (), rfl, (rfl), by rw [ht]; exact hP9, va_K.moved hW.alike hK9, hD9⟩, hS.F ht⟩) hS.2.2 dX6_root_28
