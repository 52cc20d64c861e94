/-! What uses the reference's span. -/
def tri : Nat → Nat
  | 0 => 1
  | r + 1 => tri r + (r + 2)
theorem tri_45 : ∀ r, r ≤ 8 → tri r ≤ 45 := by decide
theorem tri_7 : ∀ r, r ≤ 7 → tri r + (r + 2) ≤ 45 ∧ tri r + 9 ≤ 45 := by decide
theorem nX6_close_inX6 : ∀ w ∈ u_ws RX6 TX6 8, w ∈ wsX6_close := by decide +kernel
theorem nX6_isSpanned_inX6 : ∀ w ∈ u_ws RX6 TX6 8, w ∈ wsX6_isSpanned := by decide +kernel
theorem nX6_rank_inX6 : ∀ w ∈ u_ws RX6 TX6 8, w ∈ wsX6_rank := by decide +kernel
abbrev rm_c_X6_close : Room := { frames := 2, cells := 9, slots := 2304, locals := 50 }
abbrev q_c_X6_close (D : va_G) (sz : Nat) (mo : Nat) (ra : Nat) (ca : Nat) (ha : Nat) (ba : Nat) (wa : Nat) (kp : Nat) (hd : Nat) (kb : ClassId) (th : Nat) (bf : Nat → Bool) : Array Value → State → Outcome → State → Prop := va_Qi (fun r (_ : Unit) => r = (nI (cm bf (spk bf 256) 256))) (fun (_ : Unit) t => va_P D vwCl [(mo, .inr (8, [.int (nI 0), .ref ra, .ref ca, .ref ha, .int (nI kp), .ref ba, .int (nI hd), .ref wa])), (ba, .inl (kb, 256, .inl (aB (spk bf 256))))] t.heap ∧ va_K D vwCl [(kb, .boolean)] t ∧ va_D (va_A [(mo, .inr (8, [.int (nI th), .ref ra, .ref ca, .ref ha, .int (nI kp), .ref ba, .int (nI hd), .ref wa])), (ba, .inl (kb, 256, .inl (aB bf)))] sz) [(mo, .inr (8, [.int (nI 0), .ref ra, .ref ca, .ref ha, .int (nI kp), .ref ba, .int (nI hd), .ref wa])), (ba, .inl (kb, 256, .inl (aB (spk bf 256))))]) (va_A [(mo, .inr (8, [.int (nI th), .ref ra, .ref ca, .ref ha, .int (nI kp), .ref ba, .int (nI hd), .ref wa])), (ba, .inl (kb, 256, .inl (aB bf)))] sz)
set_option maxHeartbeats 4000000 in
set_option maxRecDepth 100000 in
theorem c_X6_close (l : Launch) (D : va_G) (sz : Nat) (mo : Nat) (ra : Nat) (ca : Nat) (ha : Nat) (ba : Nat) (wa : Nat) (kp : Nat) (hd : Nat) (kb : ClassId) (th : Nat) (bf : Nat → Bool) : Met l yX6_close wsX6_close rm_c_X6_close (va_Pc [.ref mo] (fun U => U.heap.size = sz ∧ va_P D vwCl [(mo, .inr (8, [.int (nI th), .ref ra, .ref ca, .ref ha, .int (nI kp), .ref ba, .int (nI hd), .ref wa])), (ba, .inl (kb, 256, .inl (aB bf)))] U.heap ∧ va_K D vwCl [(kb, .boolean)] U ∧ va_D (fun _ => True) [(mo, .inr (8, [.int (nI th), .ref ra, .ref ca, .ref ha, .int (nI kp), .ref ba, .int (nI hd), .ref wa])), (ba, .inl (kb, 256, .inl (aB bf)))])) (q_c_X6_close D sz mo ra ca ha ba wa kp hd kb th bf) 9 2304 (va_A [(mo, .inr (8, [.int (nI th), .ref ra, .ref ca, .ref ha, .int (nI kp), .ref ba, .int (nI hd), .ref wa])), (ba, .inl (kb, 256, .inl (aB bf)))] sz) := by
  refine Met.ofW (cc := cX6_close) (maxL := 1) (ret := (some .int)) (by decide) rfl ?_
  intro p e s m args below meth c s₁ B hml hv
  obtain ⟨hargs, hsz, hP, hK, hD0⟩ := hv
  have hx := B.exec
  have hb := B.bytes
  have hr := B.returns
  have hts := atoms_spec (ws := wsX6_close) B.pre
  have hown : s.vm.findClass RX6 = some m.cls := findClass_of_methodNamed B.named
  have hlocks := B.notSynchronized
  subst hsz
  have hD := hD0.self (sz := s.heap.size)
  generalize hAe : va_A [(mo, .inr (8, [.int (nI th), .ref ra, .ref ca, .ref ha, .int (nI kp), .ref ba, .int (nI hd), .ref wa])), (ba, .inl (kb, 256, .inl (aB bf)))] s.heap.size = A at hD ⊢
  have hA : ∀ q : Nat, s.heap.size ≤ q → A q := fun q h => by rw [← hAe]; exact Or.inr h
  have hS : va_S A s.heap s.heap [] := va_S.rf
  have hl := lv_entry ([.ref mo]) (n := 1) (Nat.le_of_ble_eq_true rfl)
  refine W.eq (g2 := F0 m 0 (lg_sl ([.ref mo]) ++ List.replicate (1 - (lg_sl ([.ref mo])).length) Slot.unset).toArray []) (by rw [hargs]; exact lg_entry_eq _ _ _) ?_
  generalize (lg_sl ([.ref mo]) ++ List.replicate (1 - (lg_sl ([.ref mo])).length) Slot.unset).toArray = ls at hl ⊢
  have hl : lv_has ls 1 [(0, .ref mo)] := hl
  refine lv_aload_n hx hb dX6_close_0 rfl (lv_at hl 0 rfl) ?_
  refine lv_iconst (v := nI 0) hx hb dX6_close_1 zki_0 ?_
  refine va_put (D := D) (ci := 8) (v := .int (nI 0)) (ty := .int) (C := RX6) (T := TX6) (N := 8) hx hb hts nX6_close_inX6 tyX6 tyX6_ok nmX6 hown hK hP hD hS 0 rfl rfl 0 (by decide) (hts (.fieldLink RX6 26 "GamefieldModel" "thrown" "I") (by decide +kernel)) (fun _ h9 => h9) rfl (by decide +kernel) rfl rfl (Nat.le_of_ble_eq_true rfl) dX6_close_2 (fun H locs hP hD hS => ?_)
  have hP : va_P D vwCl [(mo, .inr (8, [.int (nI 0), .ref ra, .ref ca, .ref ha, .int (nI kp), .ref ba, .int (nI hd), .ref wa])), (ba, .inl (kb, 256, .inl (aB bf)))] H := hP
  have hD : va_D A [(mo, .inr (8, [.int (nI 0), .ref ra, .ref ca, .ref ha, .int (nI kp), .ref ba, .int (nI hd), .ref wa])), (ba, .inl (kb, 256, .inl (aB bf)))] := hD
  refine lv_aload_n hx hb dX6_close_5 rfl (lv_at hl 0 rfl) ?_
  refine lv_aload_n hx hb dX6_close_6 rfl (lv_at hl 0 rfl) ?_
  refine lv_sipush (v := nI 256) hx hb dX6_close_7 zks_256 ?_
  have hrk8 := rkk_8 bf 256 (by omega)
  have hPc := hP.sub (ws' := [(mo, .inr (8, [.int (nI 0), .ref ra, .ref ca, .ref ha, .int (nI kp), .ref ba, .int (nI hd), .ref wa])), (ba, .inl (kb, 256, .inl (aB bf)))]) [0, 1] rfl
  have hDc := hD.sub (ws' := [(mo, .inr (8, [.int (nI 0), .ref ra, .ref ca, .ref ha, .int (nI kp), .ref ba, .int (nI hd), .ref wa])), (ba, .inl (kb, 256, .inl (aB bf)))]) [0, 1] (by decide) rfl
  have hKc := hK.sub (tys' := [(kb, .boolean)]) [0] rfl
  have hFc := va_free (wc := [(mo, .inr (8, [.int (nI 0), .ref ra, .ref ca, .ref ha, .int (nI kp), .ref ba, .int (nI hd), .ref wa])), (ba, .inl (kb, 256, .inl (aB bf)))]) hD hS hA [0, 1] rfl
  refine va_callr (va_runV (As := [.int (nI 256)]) (rest := [.ref mo]) ⟨hx, hb, hml, hown, hts⟩ (c_X6_span l D H.size mo ra ca ha ba wa kp hd kb 0 bf 256 (by omega)) (cwV 1 hts gX6_close_X6_span rfl rfl rfl (by decide +kernel) ⟨Nat.le_of_ble_eq_true rfl, Nat.le_of_ble_eq_true rfl⟩) ⟨(z_fb2), va_recv hK hP (ci := 8) (q0 := 0) rfl rfl, fun U hU hW => ⟨rfl, by rw [hU], by rw [hU]; exact hPc, va_K.moved hW.alike hKc, hDc.weaken (fun _ _ _ _ => trivial)⟩⟩ rfl rfl hl.1 rfl (lv_room (Nat.le_of_ble_eq_true rfl)) dX6_close_10 ⟨z_room (c := 9) rfl (by omega), z_room (c := 2304) rfl (by omega)⟩) hS (fun q _ h => hFc q h) hFc (fun u10 r10 t H locs ht hvm e10 hB hz1 hk1 hS => ?_)
  obtain ⟨kt_10, rfl⟩ : ∃ z, z = u10 := ⟨_, rfl⟩
  try dsimp only at e10 hB
  obtain ⟨hP1, hK1, hD1⟩ := hB
  rw [ht] at hP1
  obtain ⟨hP, hD⟩ := va_join (wr := []) (w1 := [(mo, .inr (8, [.int (nI 0), .ref ra, .ref ca, .ref ha, .int (nI kp), .ref ba, .int (nI hd), .ref wa])), (ba, .inl (kb, 256, .inl (aB bf))), (r10, .inl (kt_10, 256, .inl (aB (spk bf 256))))]) hP hD [0, 1] [] rfl rfl (by decide) (by decide) hk1 hFc hP1 hD1
  have hP : va_P D vwCl [(mo, .inr (8, [.int (nI 0), .ref ra, .ref ca, .ref ha, .int (nI kp), .ref ba, .int (nI hd), .ref wa])), (ba, .inl (kb, 256, .inl (aB bf))), (r10, .inl (kt_10, 256, .inl (aB (spk bf 256))))] H := hP
  have hD : va_D A [(mo, .inr (8, [.int (nI 0), .ref ra, .ref ca, .ref ha, .int (nI kp), .ref ba, .int (nI hd), .ref wa])), (ba, .inl (kb, 256, .inl (aB bf))), (r10, .inl (kt_10, 256, .inl (aB (spk bf 256))))] := hD
  have hK := hK.app (va_K.moved hvm.symm hK1)
  have hK : va_K D vwCl [(kb, .boolean), (kb, .boolean), (kt_10, .boolean)] s := hK
  refine W.widen (k := (1 + rkk bf 256)) (n := (256 * (1 + rkk bf 256))) (by omega) (by omega) ?_
  have hrk10 := rkk_8 bf 256 (by omega)
  have hPc := hP.sub (ws' := [(mo, .inr (8, [.int (nI 0), .ref ra, .ref ca, .ref ha, .int (nI kp), .ref ba, .int (nI hd), .ref wa])), (ba, .inl (kb, 256, .inl (aB bf))), (r10, .inl (kt_10, 256, .inl (aB (spk bf 256))))]) [0, 1, 2] rfl
  have hDc := hD.sub (ws' := [(mo, .inr (8, [.int (nI 0), .ref ra, .ref ca, .ref ha, .int (nI kp), .ref ba, .int (nI hd), .ref wa])), (ba, .inl (kb, 256, .inl (aB bf))), (r10, .inl (kt_10, 256, .inl (aB (spk bf 256))))]) [0, 1, 2] (by decide) rfl
  have hKc := hK.sub (tys' := [(kb, .boolean), (kt_10, .boolean)]) [0, 2] rfl
  have hFc := va_free (wc := [(mo, .inr (8, [.int (nI 0), .ref ra, .ref ca, .ref ha, .int (nI kp), .ref ba, .int (nI hd), .ref wa])), (ba, .inl (kb, 256, .inl (aB bf))), (r10, .inl (kt_10, 256, .inl (aB (spk bf 256))))]) hD hS hA [0, 1, 2] rfl
  refine va_calli (va_runV (As := [.ref r10]) (rest := []) ⟨hx, hb, hml, hown, hts⟩ (c_X6_becomes_ l D H.size mo ra ca ha ba wa kp hd kb 0 bf r10 kt_10 (spk bf 256) ) (cwV 1 hts gX6_close_X6_becomes_ rfl rfl rfl (by decide +kernel) ⟨Nat.le_of_ble_eq_true rfl, Nat.le_of_ble_eq_true rfl⟩) ⟨(z_fb2), va_recv hK hP (ci := 8) (q0 := 0) rfl rfl, fun U hU hW => ⟨rfl, by rw [hU], by rw [hU]; exact hPc, va_K.moved hW.alike hKc, hDc.weaken (fun _ _ _ _ => trivial)⟩⟩ rfl rfl hl.1 rfl (lv_room (Nat.le_of_ble_eq_true rfl)) dX6_close_13 ⟨z_room (c := 9) rfl (by omega), z_room (c := 2304) rfl (by omega)⟩) hS (fun q _ h => hFc q h) hFc (fun r13 u13 t H locs ht hvm e13 hB hz1 hk1 hS => ?_)
  obtain ⟨hP1, hK1, hD1⟩ := hB
  rw [ht] at hP1
  obtain ⟨hP, hD⟩ := va_join (wr := []) (w1 := [(mo, .inr (8, [.int (nI 0), .ref ra, .ref ca, .ref ha, .int (nI kp), .ref ba, .int (nI hd), .ref wa])), (ba, .inl (kb, 256, .inl (aB (spk bf 256)))), (r10, .inl (kt_10, 256, .inl (aB (spk bf 256))))]) hP hD [0, 1, 2] [] rfl rfl (by decide) (by decide) hk1 hFc hP1 hD1
  have hP : va_P D vwCl [(mo, .inr (8, [.int (nI 0), .ref ra, .ref ca, .ref ha, .int (nI kp), .ref ba, .int (nI hd), .ref wa])), (ba, .inl (kb, 256, .inl (aB (spk bf 256)))), (r10, .inl (kt_10, 256, .inl (aB (spk bf 256))))] H := hP
  have hD : va_D A [(mo, .inr (8, [.int (nI 0), .ref ra, .ref ca, .ref ha, .int (nI kp), .ref ba, .int (nI hd), .ref wa])), (ba, .inl (kb, 256, .inl (aB (spk bf 256)))), (r10, .inl (kt_10, 256, .inl (aB (spk bf 256))))] := hD
  refine W.widen (k := (1 + rkk bf 256)) (n := (256 * (1 + rkk bf 256))) (by omega) (by omega) ?_
  subst e13
  have hcm13 := cm_le bf (spk bf 256) 256
  have hP9 := hP.sub (ws' := [(mo, .inr (8, [.int (nI 0), .ref ra, .ref ca, .ref ha, .int (nI kp), .ref ba, .int (nI hd), .ref wa])), (ba, .inl (kb, 256, .inl (aB (spk bf 256))))]) [0, 1] rfl
  have hD9 := hD.sub (ws' := [(mo, .inr (8, [.int (nI 0), .ref ra, .ref ca, .ref ha, .int (nI kp), .ref ba, .int (nI hd), .ref wa])), (ba, .inl (kb, 256, .inl (aB (spk bf 256))))]) [0, 1] (by decide) rfl
  have hK9 := hK.sub (tys' := [(kb, .boolean)]) [0] rfl
  subst hAe
  refine W.widen (k := 9) (n := 2304) (by omega) (by omega) ?_
  exact W.iret hx hb hr (fun t ht hW => ⟨⟨_, (), rfl, (rfl), by rw [ht]; exact hP9, va_K.moved hW.alike hK9, hD9⟩, hS.F ht⟩) hS.2.2 dX6_close_16
abbrev rm_c_X6_isSpanned_ok : Room := { frames := 2, cells := 9, slots := 2304, locals := 50 }
abbrev q_c_X6_isSpanned_ok (D : va_G) (sz : Nat) (mo : Nat) (ra : Nat) (ca : Nat) (ha : Nat) (ba : Nat) (wa : Nat) (kp : Nat) (hd : Nat) (kb : ClassId) (th : Nat) (bf : Nat → Bool) (j : Nat) : Array Value → State → Outcome → State → Prop := va_Qi (fun r (_ : Unit) => r = (bI (spk bf 256 j))) (fun (_ : Unit) t => va_P D vwCl [(mo, .inr (8, [.int (nI 0), .ref ra, .ref ca, .ref ha, .int (nI kp), .ref ba, .int (nI hd), .ref wa])), (ba, .inl (kb, 256, .inl (aB bf)))] t.heap ∧ va_K D vwCl [(kb, .boolean)] t ∧ va_D (va_A [(mo, .inr (8, [.int (nI th), .ref ra, .ref ca, .ref ha, .int (nI kp), .ref ba, .int (nI hd), .ref wa])), (ba, .inl (kb, 256, .inl (aB bf)))] sz) [(mo, .inr (8, [.int (nI 0), .ref ra, .ref ca, .ref ha, .int (nI kp), .ref ba, .int (nI hd), .ref wa])), (ba, .inl (kb, 256, .inl (aB bf)))]) (va_A [(mo, .inr (8, [.int (nI th), .ref ra, .ref ca, .ref ha, .int (nI kp), .ref ba, .int (nI hd), .ref wa])), (ba, .inl (kb, 256, .inl (aB bf)))] sz)
set_option maxHeartbeats 4000000 in
set_option maxRecDepth 100000 in
theorem c_X6_isSpanned_ok (l : Launch) (D : va_G) (sz : Nat) (mo : Nat) (ra : Nat) (ca : Nat) (ha : Nat) (ba : Nat) (wa : Nat) (kp : Nat) (hd : Nat) (kb : ClassId) (th : Nat) (bf : Nat → Bool) (j : Nat) (hj : j < 256) : Met l yX6_isSpanned wsX6_isSpanned rm_c_X6_isSpanned_ok (va_Pc [.ref mo, .int (nI j)] (fun U => U.heap.size = sz ∧ va_P D vwCl [(mo, .inr (8, [.int (nI th), .ref ra, .ref ca, .ref ha, .int (nI kp), .ref ba, .int (nI hd), .ref wa])), (ba, .inl (kb, 256, .inl (aB bf)))] U.heap ∧ va_K D vwCl [(kb, .boolean)] U ∧ va_D (fun _ => True) [(mo, .inr (8, [.int (nI th), .ref ra, .ref ca, .ref ha, .int (nI kp), .ref ba, .int (nI hd), .ref wa])), (ba, .inl (kb, 256, .inl (aB bf)))])) (q_c_X6_isSpanned_ok D sz mo ra ca ha ba wa kp hd kb th bf j) 9 2304 (va_A [(mo, .inr (8, [.int (nI th), .ref ra, .ref ca, .ref ha, .int (nI kp), .ref ba, .int (nI hd), .ref wa])), (ba, .inl (kb, 256, .inl (aB bf)))] sz) := by
  refine Met.ofW (cc := cX6_isSpanned) (maxL := 2) (ret := (some .boolean)) (by decide) rfl ?_
  intro p e s m args below meth c s₁ B hml hv
  obtain ⟨hargs, hsz, hP, hK, hD0⟩ := hv
  have hx := B.exec
  have hb := B.bytes
  have hr := B.returns
  have hts := atoms_spec (ws := wsX6_isSpanned) B.pre
  have hown : s.vm.findClass RX6 = some m.cls := findClass_of_methodNamed B.named
  have hlocks := B.notSynchronized
  subst hsz
  have hD := hD0.self (sz := s.heap.size)
  generalize hAe : va_A [(mo, .inr (8, [.int (nI th), .ref ra, .ref ca, .ref ha, .int (nI kp), .ref ba, .int (nI hd), .ref wa])), (ba, .inl (kb, 256, .inl (aB bf)))] s.heap.size = A at hD ⊢
  have hA : ∀ q : Nat, s.heap.size ≤ q → A q := fun q h => by rw [← hAe]; exact Or.inr h
  have hS : va_S A s.heap s.heap [] := va_S.rf
  have hl := lv_entry ([.ref mo, .int (nI j)]) (n := 2) (Nat.le_of_ble_eq_true rfl)
  refine W.eq (g2 := F0 m 0 (lg_sl ([.ref mo, .int (nI j)]) ++ List.replicate (2 - (lg_sl ([.ref mo, .int (nI j)])).length) Slot.unset).toArray []) (by rw [hargs]; exact lg_entry_eq _ _ _) ?_
  generalize (lg_sl ([.ref mo, .int (nI j)]) ++ List.replicate (2 - (lg_sl ([.ref mo, .int (nI j)])).length) Slot.unset).toArray = ls at hl ⊢
  have hl : lv_has ls 2 [(0, .ref mo), (1, .int (nI j))] := hl
  refine lv_aload_n hx hb dX6_isSpanned_0 rfl (lv_at hl 0 rfl) ?_
  refine lv_iconst (v := nI 0) hx hb dX6_isSpanned_1 zki_0 ?_
  refine va_put (D := D) (ci := 8) (v := .int (nI 0)) (ty := .int) (C := RX6) (T := TX6) (N := 8) hx hb hts nX6_isSpanned_inX6 tyX6 tyX6_ok nmX6 hown hK hP hD hS 0 rfl rfl 0 (by decide) (hts (.fieldLink RX6 26 "GamefieldModel" "thrown" "I") (by decide +kernel)) (fun _ h9 => h9) rfl (by decide +kernel) rfl rfl (Nat.le_of_ble_eq_true rfl) dX6_isSpanned_2 (fun H locs hP hD hS => ?_)
  have hP : va_P D vwCl [(mo, .inr (8, [.int (nI 0), .ref ra, .ref ca, .ref ha, .int (nI kp), .ref ba, .int (nI hd), .ref wa])), (ba, .inl (kb, 256, .inl (aB bf)))] H := hP
  have hD : va_D A [(mo, .inr (8, [.int (nI 0), .ref ra, .ref ca, .ref ha, .int (nI kp), .ref ba, .int (nI hd), .ref wa])), (ba, .inl (kb, 256, .inl (aB bf)))] := hD
  refine lv_aload_n hx hb dX6_isSpanned_5 rfl (lv_at hl 0 rfl) ?_
  refine lv_iload_n hx hb dX6_isSpanned_6 rfl (lv_at hl 1 rfl) ?_
  refine lv_sipush (v := nI 256) hx hb dX6_isSpanned_7 zks_256 ?_
  refine z_ci (va_runS (As := [.int (nI j), .int (nI 256)]) (rest := [.ref mo]) ⟨hx, hb, hml, hown, hts⟩ (c_X6_isNumber_ok l D j 256 (by omega) (by omega)) (va_cwS 2 hts gX6_isSpanned_X6_isNumber rfl rfl rfl (by decide +kernel) ⟨Nat.le_of_ble_eq_true rfl, Nat.le_of_ble_eq_true rfl⟩) ⟨z_fb0, fun U hU hW => ⟨rfl, trivial⟩⟩ rfl rfl hl.1 rfl (lv_room (Nat.le_of_ble_eq_true rfl)) dX6_isSpanned_10 ⟨Nat.le_of_ble_eq_true rfl, Nat.le_of_ble_eq_true rfl⟩) (fun r10 e10 => ?_)
  subst e10
  refine z_bne (tgt := 20) hx hb dX6_isSpanned_13 (by decide) (fun c_13 => ?_) (fun c_13 => absurd c_13 (by decide))
  refine lv_iconst (v := nI 0) hx hb dX6_isSpanned_20 zki_0 ?_
  refine lv_iconst (v := nI 1) hx hb dX6_isSpanned_21 zki_1 ?_
  have hPc := hP.sub (ws' := [(mo, .inr (8, [.int (nI 0), .ref ra, .ref ca, .ref ha, .int (nI kp), .ref ba, .int (nI hd), .ref wa]))]) [0] rfl
  have hDc := hD.sub (ws' := [(mo, .inr (8, [.int (nI 0), .ref ra, .ref ca, .ref ha, .int (nI kp), .ref ba, .int (nI hd), .ref wa]))]) [0] (by decide) rfl
  have hKc := hK.sub (tys' := []) [] rfl
  have hFc := va_free (wc := [(mo, .inr (8, [.int (nI 0), .ref ra, .ref ca, .ref ha, .int (nI kp), .ref ba, .int (nI hd), .ref wa]))]) hD hS hA [0] rfl
  refine va_calli (va_runV (As := [.int (nI 0), .int (nI 1)]) (rest := []) ⟨hx, hb, hml, hown, hts⟩ (c_X6_fails_false l D H.size mo ra ca ha ba wa kp hd 1 (by omega) (by omega)) (cwV 2 hts gX6_isSpanned_X6_fails rfl rfl rfl (by decide +kernel) ⟨Nat.le_of_ble_eq_true rfl, Nat.le_of_ble_eq_true rfl⟩) ⟨(z_fb2), va_recv hK hP (ci := 8) (q0 := 0) rfl rfl, fun U hU hW => ⟨rfl, by rw [hU], by rw [hU]; exact hPc, va_K.moved hW.alike hKc, hDc.weaken (fun _ _ _ _ => trivial)⟩⟩ rfl rfl hl.1 rfl (lv_room (Nat.le_of_ble_eq_true rfl)) dX6_isSpanned_22 ⟨Nat.le_of_ble_eq_true rfl, Nat.le_of_ble_eq_true rfl⟩) hS (fun q _ h => hFc q h) hFc (fun r22 u22 t H locs ht hvm e22 hB hz1 hk1 hS => ?_)
  obtain ⟨hP1, hK1, hD1⟩ := hB
  rw [ht] at hP1
  obtain ⟨hP, hD⟩ := va_join (wr := [(ba, .inl (kb, 256, .inl (aB bf)))]) (w1 := [(mo, .inr (8, [.int (nI 0), .ref ra, .ref ca, .ref ha, .int (nI kp), .ref ba, .int (nI hd), .ref wa]))]) hP hD [0] [1] rfl rfl (by decide) (by decide) hk1 hFc hP1 hD1
  have hP : va_P D vwCl [(ba, .inl (kb, 256, .inl (aB bf))), (mo, .inr (8, [.int (nI 0), .ref ra, .ref ca, .ref ha, .int (nI kp), .ref ba, .int (nI hd), .ref wa]))] H := hP
  have hD : va_D A [(ba, .inl (kb, 256, .inl (aB bf))), (mo, .inr (8, [.int (nI 0), .ref ra, .ref ca, .ref ha, .int (nI kp), .ref ba, .int (nI hd), .ref wa]))] := hD
  refine W.widen (k := 0) (n := 0) (Nat.le_of_ble_eq_true rfl) (Nat.le_of_ble_eq_true rfl) ?_
  subst e22
  refine z_bne (tgt := 44) hx hb dX6_isSpanned_25 (by decide) (fun c_25 => absurd c_25 (by decide)) (fun c_25 => ?_)
  refine lv_aload_n hx hb dX6_isSpanned_28 rfl (lv_at hl 0 rfl) ?_
  refine lv_sipush (v := nI 256) hx hb dX6_isSpanned_29 zks_256 ?_
  have hrk8 := rkk_8 bf 256 (by omega)
  have hPc := hP.sub (ws' := [(mo, .inr (8, [.int (nI 0), .ref ra, .ref ca, .ref ha, .int (nI kp), .ref ba, .int (nI hd), .ref wa])), (ba, .inl (kb, 256, .inl (aB bf)))]) [1, 0] rfl
  have hDc := hD.sub (ws' := [(mo, .inr (8, [.int (nI 0), .ref ra, .ref ca, .ref ha, .int (nI kp), .ref ba, .int (nI hd), .ref wa])), (ba, .inl (kb, 256, .inl (aB bf)))]) [1, 0] (by decide) rfl
  have hKc := hK.sub (tys' := [(kb, .boolean)]) [0] rfl
  have hFc := va_free (wc := [(mo, .inr (8, [.int (nI 0), .ref ra, .ref ca, .ref ha, .int (nI kp), .ref ba, .int (nI hd), .ref wa])), (ba, .inl (kb, 256, .inl (aB bf)))]) hD hS hA [1, 0] rfl
  refine va_callr (va_runV (As := [.int (nI 256)]) (rest := []) ⟨hx, hb, hml, hown, hts⟩ (c_X6_span l D H.size mo ra ca ha ba wa kp hd kb 0 bf 256 (by omega)) (cwV 1 hts gX6_isSpanned_X6_span rfl rfl rfl (by decide +kernel) ⟨Nat.le_of_ble_eq_true rfl, Nat.le_of_ble_eq_true rfl⟩) ⟨(z_fb2), va_recv hK hP (ci := 8) (q0 := 1) rfl rfl, fun U hU hW => ⟨rfl, by rw [hU], by rw [hU]; exact hPc, va_K.moved hW.alike hKc, hDc.weaken (fun _ _ _ _ => trivial)⟩⟩ rfl rfl hl.1 rfl (lv_room (Nat.le_of_ble_eq_true rfl)) dX6_isSpanned_32 ⟨z_room (c := 9) rfl (by omega), z_room (c := 2304) rfl (by omega)⟩) hS (fun q _ h => hFc q h) hFc (fun u32 r32 t H locs ht hvm e32 hB hz1 hk1 hS => ?_)
  obtain ⟨kt_32, rfl⟩ : ∃ z, z = u32 := ⟨_, rfl⟩
  try dsimp only at e32 hB
  obtain ⟨hP1, hK1, hD1⟩ := hB
  rw [ht] at hP1
  obtain ⟨hP, hD⟩ := va_join (wr := []) (w1 := [(mo, .inr (8, [.int (nI 0), .ref ra, .ref ca, .ref ha, .int (nI kp), .ref ba, .int (nI hd), .ref wa])), (ba, .inl (kb, 256, .inl (aB bf))), (r32, .inl (kt_32, 256, .inl (aB (spk bf 256))))]) hP hD [1, 0] [] rfl rfl (by decide) (by decide) hk1 hFc hP1 hD1
  have hP : va_P D vwCl [(mo, .inr (8, [.int (nI 0), .ref ra, .ref ca, .ref ha, .int (nI kp), .ref ba, .int (nI hd), .ref wa])), (ba, .inl (kb, 256, .inl (aB bf))), (r32, .inl (kt_32, 256, .inl (aB (spk bf 256))))] H := hP
  have hD : va_D A [(mo, .inr (8, [.int (nI 0), .ref ra, .ref ca, .ref ha, .int (nI kp), .ref ba, .int (nI hd), .ref wa])), (ba, .inl (kb, 256, .inl (aB bf))), (r32, .inl (kt_32, 256, .inl (aB (spk bf 256))))] := hD
  have hK := hK.app (va_K.moved hvm.symm hK1)
  have hK : va_K D vwCl [(kb, .boolean), (kb, .boolean), (kt_32, .boolean)] s := hK
  refine W.widen (k := (1 + rkk bf 256)) (n := (256 * (1 + rkk bf 256))) (by omega) (by omega) ?_
  have hrk32 := rkk_8 bf 256 (by omega)
  refine lv_iload_n hx hb dX6_isSpanned_35 rfl (lv_at hl 1 rfl) ?_
  refine z_zald hx hb hK hP 2 2 rfl rfl (by omega) (by decide) dX6_isSpanned_36 ?_
  refine z_beq (tgt := 44) hx hb dX6_isSpanned_37 (by decide) (fun c_37 => ?_) (fun c_37 => ?_)
  · refine lv_iconst (v := nI 0) hx hb dX6_isSpanned_44 zki_0 ?_
    have hP9 := hP.sub (ws' := [(mo, .inr (8, [.int (nI 0), .ref ra, .ref ca, .ref ha, .int (nI kp), .ref ba, .int (nI hd), .ref wa])), (ba, .inl (kb, 256, .inl (aB bf)))]) [0, 1] rfl
    have hD9 := hD.sub (ws' := [(mo, .inr (8, [.int (nI 0), .ref ra, .ref ca, .ref ha, .int (nI kp), .ref ba, .int (nI hd), .ref wa])), (ba, .inl (kb, 256, .inl (aB bf)))]) [0, 1] (by decide) rfl
    have hK9 := hK.sub (tys' := [(kb, .boolean)]) [0] rfl
    subst hAe
    refine W.widen (k := 9) (n := 2304) (by omega) (by omega) ?_
    refine zt (show nI 0 = bI false from rfl) ?_
    exact W.zret (ty := .boolean) hx hb hr (z_narB _) (fun t ht hW => ⟨⟨_, (), rfl, (congrArg bI (by rw [c_37])), by rw [ht]; exact hP9, va_K.moved hW.alike hK9, hD9⟩, hS.F ht⟩) hS.2.2 dX6_isSpanned_45
  · refine lv_iconst (v := nI 1) hx hb dX6_isSpanned_40 zki_1 ?_
    refine lv_goto (tgt := 45) hx hb dX6_isSpanned_41 (by decide) ?_
    have hP9 := hP.sub (ws' := [(mo, .inr (8, [.int (nI 0), .ref ra, .ref ca, .ref ha, .int (nI kp), .ref ba, .int (nI hd), .ref wa])), (ba, .inl (kb, 256, .inl (aB bf)))]) [0, 1] rfl
    have hD9 := hD.sub (ws' := [(mo, .inr (8, [.int (nI 0), .ref ra, .ref ca, .ref ha, .int (nI kp), .ref ba, .int (nI hd), .ref wa])), (ba, .inl (kb, 256, .inl (aB bf)))]) [0, 1] (by decide) rfl
    have hK9 := hK.sub (tys' := [(kb, .boolean)]) [0] rfl
    subst hAe
    refine W.widen (k := 9) (n := 2304) (by omega) (by omega) ?_
    refine zt (show nI 1 = bI true from rfl) ?_
    exact W.zret (ty := .boolean) hx hb hr (z_narB _) (fun t ht hW => ⟨⟨_, (), rfl, (congrArg bI (by rw [c_37])), by rw [ht]; exact hP9, va_K.moved hW.alike hK9, hD9⟩, hS.F ht⟩) hS.2.2 dX6_isSpanned_45
abbrev rm_c_X6_isSpanned_no : Room := { frames := 1, cells := 0, slots := 0, locals := 22 }
abbrev q_c_X6_isSpanned_no (D : va_G) (sz : Nat) (mo : Nat) (ra : Nat) (ca : Nat) (ha : Nat) (ba : Nat) (wa : Nat) (kp : Nat) (hd : Nat) (kb : ClassId) (th : Nat) (bf : Nat → Bool) (x0 : Int32) : Array Value → State → Outcome → State → Prop := va_Qi (fun r (_ : Unit) => r = (bI false)) (fun (_ : Unit) t => va_P D vwCl [(mo, .inr (8, [.int (nI 1), .ref ra, .ref ca, .ref ha, .int (nI kp), .ref ba, .int (nI hd), .ref wa])), (ba, .inl (kb, 256, .inl (aB bf)))] t.heap ∧ va_K D vwCl [(kb, .boolean)] t ∧ va_D (va_A [(mo, .inr (8, [.int (nI th), .ref ra, .ref ca, .ref ha, .int (nI kp), .ref ba, .int (nI hd), .ref wa])), (ba, .inl (kb, 256, .inl (aB bf)))] sz) [(mo, .inr (8, [.int (nI 1), .ref ra, .ref ca, .ref ha, .int (nI kp), .ref ba, .int (nI hd), .ref wa])), (ba, .inl (kb, 256, .inl (aB bf)))]) (va_A [(mo, .inr (8, [.int (nI th), .ref ra, .ref ca, .ref ha, .int (nI kp), .ref ba, .int (nI hd), .ref wa])), (ba, .inl (kb, 256, .inl (aB bf)))] sz)
set_option maxHeartbeats 4000000 in
set_option maxRecDepth 100000 in
theorem c_X6_isSpanned_no (l : Launch) (D : va_G) (sz : Nat) (mo : Nat) (ra : Nat) (ca : Nat) (ha : Nat) (ba : Nat) (wa : Nat) (kp : Nat) (hd : Nat) (kb : ClassId) (th : Nat) (bf : Nat → Bool) (x0 : Int32) (hno : inN 256 x0 = false) : Met l yX6_isSpanned wsX6_isSpanned rm_c_X6_isSpanned_no (va_Pc [.ref mo, .int x0] (fun U => U.heap.size = sz ∧ va_P D vwCl [(mo, .inr (8, [.int (nI th), .ref ra, .ref ca, .ref ha, .int (nI kp), .ref ba, .int (nI hd), .ref wa])), (ba, .inl (kb, 256, .inl (aB bf)))] U.heap ∧ va_K D vwCl [(kb, .boolean)] U ∧ va_D (fun _ => True) [(mo, .inr (8, [.int (nI th), .ref ra, .ref ca, .ref ha, .int (nI kp), .ref ba, .int (nI hd), .ref wa])), (ba, .inl (kb, 256, .inl (aB bf)))])) (q_c_X6_isSpanned_no D sz mo ra ca ha ba wa kp hd kb th bf x0) 0 0 (va_A [(mo, .inr (8, [.int (nI th), .ref ra, .ref ca, .ref ha, .int (nI kp), .ref ba, .int (nI hd), .ref wa])), (ba, .inl (kb, 256, .inl (aB bf)))] sz) := by
  refine Met.ofW (cc := cX6_isSpanned) (maxL := 2) (ret := (some .boolean)) (by decide) rfl ?_
  intro p e s m args below meth c s₁ B hml hv
  obtain ⟨hargs, hsz, hP, hK, hD0⟩ := hv
  have hx := B.exec
  have hb := B.bytes
  have hr := B.returns
  have hts := atoms_spec (ws := wsX6_isSpanned) B.pre
  have hown : s.vm.findClass RX6 = some m.cls := findClass_of_methodNamed B.named
  have hlocks := B.notSynchronized
  subst hsz
  have hD := hD0.self (sz := s.heap.size)
  generalize hAe : va_A [(mo, .inr (8, [.int (nI th), .ref ra, .ref ca, .ref ha, .int (nI kp), .ref ba, .int (nI hd), .ref wa])), (ba, .inl (kb, 256, .inl (aB bf)))] s.heap.size = A at hD ⊢
  have hA : ∀ q : Nat, s.heap.size ≤ q → A q := fun q h => by rw [← hAe]; exact Or.inr h
  have hS : va_S A s.heap s.heap [] := va_S.rf
  have hl := lv_entry ([.ref mo, .int x0]) (n := 2) (Nat.le_of_ble_eq_true rfl)
  refine W.eq (g2 := F0 m 0 (lg_sl ([.ref mo, .int x0]) ++ List.replicate (2 - (lg_sl ([.ref mo, .int x0])).length) Slot.unset).toArray []) (by rw [hargs]; exact lg_entry_eq _ _ _) ?_
  generalize (lg_sl ([.ref mo, .int x0]) ++ List.replicate (2 - (lg_sl ([.ref mo, .int x0])).length) Slot.unset).toArray = ls at hl ⊢
  have hl : lv_has ls 2 [(0, .ref mo), (1, .int x0)] := hl
  refine lv_aload_n hx hb dX6_isSpanned_0 rfl (lv_at hl 0 rfl) ?_
  refine lv_iconst (v := nI 0) hx hb dX6_isSpanned_1 zki_0 ?_
  refine va_put (D := D) (ci := 8) (v := .int (nI 0)) (ty := .int) (C := RX6) (T := TX6) (N := 8) hx hb hts nX6_isSpanned_inX6 tyX6 tyX6_ok nmX6 hown hK hP hD hS 0 rfl rfl 0 (by decide) (hts (.fieldLink RX6 26 "GamefieldModel" "thrown" "I") (by decide +kernel)) (fun _ h9 => h9) rfl (by decide +kernel) rfl rfl (Nat.le_of_ble_eq_true rfl) dX6_isSpanned_2 (fun H locs hP hD hS => ?_)
  have hP : va_P D vwCl [(mo, .inr (8, [.int (nI 0), .ref ra, .ref ca, .ref ha, .int (nI kp), .ref ba, .int (nI hd), .ref wa])), (ba, .inl (kb, 256, .inl (aB bf)))] H := hP
  have hD : va_D A [(mo, .inr (8, [.int (nI 0), .ref ra, .ref ca, .ref ha, .int (nI kp), .ref ba, .int (nI hd), .ref wa])), (ba, .inl (kb, 256, .inl (aB bf)))] := hD
  refine lv_aload_n hx hb dX6_isSpanned_5 rfl (lv_at hl 0 rfl) ?_
  refine lv_iload_n hx hb dX6_isSpanned_6 rfl (lv_at hl 1 rfl) ?_
  refine lv_sipush (v := nI 256) hx hb dX6_isSpanned_7 zks_256 ?_
  refine z_ci (va_runS (As := [.int x0, .int (nI 256)]) (rest := [.ref mo]) ⟨hx, hb, hml, hown, hts⟩ (c_X6_isNumber l D x0 256 (by omega)) (va_cwS 2 hts gX6_isSpanned_X6_isNumber rfl rfl rfl (by decide +kernel) ⟨Nat.le_of_ble_eq_true rfl, Nat.le_of_ble_eq_true rfl⟩) ⟨z_fb0, fun U hU hW => ⟨rfl, trivial⟩⟩ rfl rfl hl.1 rfl (lv_room (Nat.le_of_ble_eq_true rfl)) dX6_isSpanned_10 ⟨Nat.le_of_ble_eq_true rfl, Nat.le_of_ble_eq_true rfl⟩) (fun r10 e10 => ?_)
  subst e10
  refine z_bne (tgt := 20) hx hb dX6_isSpanned_13 (by decide) (fun c_13 => absurd (hno.symm.trans c_13) (by decide)) (fun c_13 => ?_)
  refine lv_iconst (v := nI 1) hx hb dX6_isSpanned_16 zki_1 ?_
  refine lv_goto (tgt := 21) hx hb dX6_isSpanned_17 (by decide) ?_
  refine lv_iconst (v := nI 1) hx hb dX6_isSpanned_21 zki_1 ?_
  have hPc := hP.sub (ws' := [(mo, .inr (8, [.int (nI 0), .ref ra, .ref ca, .ref ha, .int (nI kp), .ref ba, .int (nI hd), .ref wa]))]) [0] rfl
  have hDc := hD.sub (ws' := [(mo, .inr (8, [.int (nI 0), .ref ra, .ref ca, .ref ha, .int (nI kp), .ref ba, .int (nI hd), .ref wa]))]) [0] (by decide) rfl
  have hKc := hK.sub (tys' := []) [] rfl
  have hFc := va_free (wc := [(mo, .inr (8, [.int (nI 0), .ref ra, .ref ca, .ref ha, .int (nI kp), .ref ba, .int (nI hd), .ref wa]))]) hD hS hA [0] rfl
  refine va_calli (va_runV (As := [.int (nI 1), .int (nI 1)]) (rest := []) ⟨hx, hb, hml, hown, hts⟩ (c_X6_fails_true l D H.size mo ra ca ha ba wa kp hd 1 (by omega) (by omega)) (cwV 2 hts gX6_isSpanned_X6_fails rfl rfl rfl (by decide +kernel) ⟨Nat.le_of_ble_eq_true rfl, Nat.le_of_ble_eq_true rfl⟩) ⟨(z_fb2), va_recv hK hP (ci := 8) (q0 := 0) rfl rfl, fun U hU hW => ⟨rfl, by rw [hU], by rw [hU]; exact hPc, va_K.moved hW.alike hKc, hDc.weaken (fun _ _ _ _ => trivial)⟩⟩ rfl rfl hl.1 rfl (lv_room (Nat.le_of_ble_eq_true rfl)) dX6_isSpanned_22 ⟨Nat.le_of_ble_eq_true rfl, Nat.le_of_ble_eq_true rfl⟩) hS (fun q _ h => hFc q h) hFc (fun r22 u22 t H locs ht hvm e22 hB hz1 hk1 hS => ?_)
  obtain ⟨hP1, hK1, hD1⟩ := hB
  rw [ht] at hP1
  obtain ⟨hP, hD⟩ := va_join (wr := [(ba, .inl (kb, 256, .inl (aB bf)))]) (w1 := [(mo, .inr (8, [.int (nI 1), .ref ra, .ref ca, .ref ha, .int (nI kp), .ref ba, .int (nI hd), .ref wa]))]) hP hD [0] [1] rfl rfl (by decide) (by decide) hk1 hFc hP1 hD1
  have hP : va_P D vwCl [(ba, .inl (kb, 256, .inl (aB bf))), (mo, .inr (8, [.int (nI 1), .ref ra, .ref ca, .ref ha, .int (nI kp), .ref ba, .int (nI hd), .ref wa]))] H := hP
  have hD : va_D A [(ba, .inl (kb, 256, .inl (aB bf))), (mo, .inr (8, [.int (nI 1), .ref ra, .ref ca, .ref ha, .int (nI kp), .ref ba, .int (nI hd), .ref wa]))] := hD
  refine W.widen (k := 0) (n := 0) (Nat.le_of_ble_eq_true rfl) (Nat.le_of_ble_eq_true rfl) ?_
  subst e22
  refine z_bne (tgt := 44) hx hb dX6_isSpanned_25 (by decide) (fun c_25 => ?_) (fun c_25 => absurd c_25 (by decide))
  refine lv_iconst (v := nI 0) hx hb dX6_isSpanned_44 zki_0 ?_
  have hP9 := hP.sub (ws' := [(mo, .inr (8, [.int (nI 1), .ref ra, .ref ca, .ref ha, .int (nI kp), .ref ba, .int (nI hd), .ref wa])), (ba, .inl (kb, 256, .inl (aB bf)))]) [1, 0] rfl
  have hD9 := hD.sub (ws' := [(mo, .inr (8, [.int (nI 1), .ref ra, .ref ca, .ref ha, .int (nI kp), .ref ba, .int (nI hd), .ref wa])), (ba, .inl (kb, 256, .inl (aB bf)))]) [1, 0] (by decide) rfl
  have hK9 := hK.sub (tys' := [(kb, .boolean)]) [0] rfl
  subst hAe
  refine W.widen (k := 0) (n := 0) (Nat.le_of_ble_eq_true rfl) (Nat.le_of_ble_eq_true rfl) ?_
  refine zt (show nI 0 = bI false from rfl) ?_
  exact W.zret (ty := .boolean) hx hb hr (z_narB _) (fun t ht hW => ⟨⟨_, (), rfl, (rfl), by rw [ht]; exact hP9, va_K.moved hW.alike hK9, hD9⟩, hS.F ht⟩) hS.2.2 dX6_isSpanned_45
abbrev rm_c_X6_rank : Room := { frames := 2, cells := 45, slots := 11520, locals := 50 }
abbrev q_c_X6_rank (D : va_G) (sz : Nat) (mo : Nat) (ra : Nat) (ca : Nat) (ha : Nat) (ba : Nat) (wa : Nat) (kp : Nat) (hd : Nat) (kb : ClassId) (th : Nat) (bf : Nat → Bool) : Array Value → State → Outcome → State → Prop := va_Qi (fun r (_ : Unit) => r = (nI (rkk bf 256))) (fun (_ : Unit) t => va_P D vwCl [(mo, .inr (8, [.int (nI 0), .ref ra, .ref ca, .ref ha, .int (nI kp), .ref ba, .int (nI hd), .ref wa])), (ba, .inl (kb, 256, .inl (aB bf)))] t.heap ∧ va_K D vwCl [(kb, .boolean)] t ∧ va_D (va_A [(mo, .inr (8, [.int (nI th), .ref ra, .ref ca, .ref ha, .int (nI kp), .ref ba, .int (nI hd), .ref wa])), (ba, .inl (kb, 256, .inl (aB bf)))] sz) [(mo, .inr (8, [.int (nI 0), .ref ra, .ref ca, .ref ha, .int (nI kp), .ref ba, .int (nI hd), .ref wa])), (ba, .inl (kb, 256, .inl (aB bf)))]) (va_A [(mo, .inr (8, [.int (nI th), .ref ra, .ref ca, .ref ha, .int (nI kp), .ref ba, .int (nI hd), .ref wa])), (ba, .inl (kb, 256, .inl (aB bf)))] sz)
set_option maxHeartbeats 4000000 in
set_option maxRecDepth 100000 in
theorem c_X6_rank (l : Launch) (D : va_G) (sz : Nat) (mo : Nat) (ra : Nat) (ca : Nat) (ha : Nat) (ba : Nat) (wa : Nat) (kp : Nat) (hd : Nat) (kb : ClassId) (th : Nat) (bf : Nat → Bool) : Met l yX6_rank wsX6_rank rm_c_X6_rank (va_Pc [.ref mo] (fun U => U.heap.size = sz ∧ va_P D vwCl [(mo, .inr (8, [.int (nI th), .ref ra, .ref ca, .ref ha, .int (nI kp), .ref ba, .int (nI hd), .ref wa])), (ba, .inl (kb, 256, .inl (aB bf)))] U.heap ∧ va_K D vwCl [(kb, .boolean)] U ∧ va_D (fun _ => True) [(mo, .inr (8, [.int (nI th), .ref ra, .ref ca, .ref ha, .int (nI kp), .ref ba, .int (nI hd), .ref wa])), (ba, .inl (kb, 256, .inl (aB bf)))])) (q_c_X6_rank D sz mo ra ca ha ba wa kp hd kb th bf) 45 11520 (va_A [(mo, .inr (8, [.int (nI th), .ref ra, .ref ca, .ref ha, .int (nI kp), .ref ba, .int (nI hd), .ref wa])), (ba, .inl (kb, 256, .inl (aB bf)))] sz) := by
  refine Met.ofW (cc := cX6_rank) (maxL := 4) (ret := (some .int)) (by decide) rfl ?_
  intro p e s m args below meth c s₁ B hml hv
  obtain ⟨hargs, hsz, hP, hK, hD0⟩ := hv
  have hx := B.exec
  have hb := B.bytes
  have hr := B.returns
  have hts := atoms_spec (ws := wsX6_rank) B.pre
  have hown : s.vm.findClass RX6 = some m.cls := findClass_of_methodNamed B.named
  have hlocks := B.notSynchronized
  subst hsz
  have hD := hD0.self (sz := s.heap.size)
  generalize hAe : va_A [(mo, .inr (8, [.int (nI th), .ref ra, .ref ca, .ref ha, .int (nI kp), .ref ba, .int (nI hd), .ref wa])), (ba, .inl (kb, 256, .inl (aB bf)))] s.heap.size = A at hD ⊢
  have hA : ∀ q : Nat, s.heap.size ≤ q → A q := fun q h => by rw [← hAe]; exact Or.inr h
  have hS : va_S A s.heap s.heap [] := va_S.rf
  have hl := lv_entry ([.ref mo]) (n := 4) (Nat.le_of_ble_eq_true rfl)
  refine W.eq (g2 := F0 m 0 (lg_sl ([.ref mo]) ++ List.replicate (4 - (lg_sl ([.ref mo])).length) Slot.unset).toArray []) (by rw [hargs]; exact lg_entry_eq _ _ _) ?_
  generalize (lg_sl ([.ref mo]) ++ List.replicate (4 - (lg_sl ([.ref mo])).length) Slot.unset).toArray = ls at hl ⊢
  have hl : lv_has ls 4 [(0, .ref mo)] := hl
  refine lv_aload_n hx hb dX6_rank_0 rfl (lv_at hl 0 rfl) ?_
  refine lv_iconst (v := nI 0) hx hb dX6_rank_1 zki_0 ?_
  refine va_put (D := D) (ci := 8) (v := .int (nI 0)) (ty := .int) (C := RX6) (T := TX6) (N := 8) hx hb hts nX6_rank_inX6 tyX6 tyX6_ok nmX6 hown hK hP hD hS 0 rfl rfl 0 (by decide) (hts (.fieldLink RX6 26 "GamefieldModel" "thrown" "I") (by decide +kernel)) (fun _ h9 => h9) rfl (by decide +kernel) rfl rfl (Nat.le_of_ble_eq_true rfl) dX6_rank_2 (fun H locs hP hD hS => ?_)
  have hP : va_P D vwCl [(mo, .inr (8, [.int (nI 0), .ref ra, .ref ca, .ref ha, .int (nI kp), .ref ba, .int (nI hd), .ref wa])), (ba, .inl (kb, 256, .inl (aB bf)))] H := hP
  have hD : va_D A [(mo, .inr (8, [.int (nI 0), .ref ra, .ref ca, .ref ha, .int (nI kp), .ref ba, .int (nI hd), .ref wa])), (ba, .inl (kb, 256, .inl (aB bf)))] := hD
  refine lv_iconst (v := nI 0) hx hb dX6_rank_5 zki_0 ?_
  refine lv_istore_n (lv' := [(1, .int (nI 0)), (0, .ref mo)]) hx hb dX6_rank_6 rfl hl (by decide) rfl (fun ls hl => ?_)
  refine lv_aload_n hx hb dX6_rank_7 rfl (lv_at hl 1 rfl) ?_
  refine lv_iconst (v := nI 0) hx hb dX6_rank_8 zki_0 ?_
  have hrk0 := rkk_8 bf 0 (by omega)
  have hPc := hP.sub (ws' := [(mo, .inr (8, [.int (nI 0), .ref ra, .ref ca, .ref ha, .int (nI kp), .ref ba, .int (nI hd), .ref wa])), (ba, .inl (kb, 256, .inl (aB bf)))]) [0, 1] rfl
  have hDc := hD.sub (ws' := [(mo, .inr (8, [.int (nI 0), .ref ra, .ref ca, .ref ha, .int (nI kp), .ref ba, .int (nI hd), .ref wa])), (ba, .inl (kb, 256, .inl (aB bf)))]) [0, 1] (by decide) rfl
  have hKc := hK.sub (tys' := [(kb, .boolean)]) [0] rfl
  have hFc := va_free (wc := [(mo, .inr (8, [.int (nI 0), .ref ra, .ref ca, .ref ha, .int (nI kp), .ref ba, .int (nI hd), .ref wa])), (ba, .inl (kb, 256, .inl (aB bf)))]) hD hS hA [0, 1] rfl
  refine va_callr (va_runV (As := [.int (nI 0)]) (rest := []) ⟨hx, hb, hml, hown, hts⟩ (c_X6_span l D H.size mo ra ca ha ba wa kp hd kb 0 bf 0 (by omega)) (cwV 1 hts gX6_rank_X6_span rfl rfl rfl (by decide +kernel) ⟨Nat.le_of_ble_eq_true rfl, Nat.le_of_ble_eq_true rfl⟩) ⟨(z_fb2), va_recv hK hP (ci := 8) (q0 := 0) rfl rfl, fun U hU hW => ⟨rfl, by rw [hU], by rw [hU]; exact hPc, va_K.moved hW.alike hKc, hDc.weaken (fun _ _ _ _ => trivial)⟩⟩ rfl rfl hl.1 rfl (lv_room (Nat.le_of_ble_eq_true rfl)) dX6_rank_9 ⟨z_room (c := 45) rfl (by omega), z_room (c := 11520) rfl (by omega)⟩) hS (fun q _ h => hFc q h) hFc (fun u9 r9 t H locs ht hvm e9 hB hz1 hk1 hS => ?_)
  obtain ⟨kt_9, rfl⟩ : ∃ z, z = u9 := ⟨_, rfl⟩
  try dsimp only at e9 hB
  obtain ⟨hP1, hK1, hD1⟩ := hB
  rw [ht] at hP1
  obtain ⟨hP, hD⟩ := va_join (wr := []) (w1 := [(mo, .inr (8, [.int (nI 0), .ref ra, .ref ca, .ref ha, .int (nI kp), .ref ba, .int (nI hd), .ref wa])), (ba, .inl (kb, 256, .inl (aB bf))), (r9, .inl (kt_9, 256, .inl (aB (spk bf 0))))]) hP hD [0, 1] [] rfl rfl (by decide) (by decide) hk1 hFc hP1 hD1
  have hP : va_P D vwCl [(mo, .inr (8, [.int (nI 0), .ref ra, .ref ca, .ref ha, .int (nI kp), .ref ba, .int (nI hd), .ref wa])), (ba, .inl (kb, 256, .inl (aB bf))), (r9, .inl (kt_9, 256, .inl (aB (spk bf 0))))] H := hP
  have hD : va_D A [(mo, .inr (8, [.int (nI 0), .ref ra, .ref ca, .ref ha, .int (nI kp), .ref ba, .int (nI hd), .ref wa])), (ba, .inl (kb, 256, .inl (aB bf))), (r9, .inl (kt_9, 256, .inl (aB (spk bf 0))))] := hD
  have hK := hK.app (va_K.moved hvm.symm hK1)
  have hK : va_K D vwCl [(kb, .boolean), (kb, .boolean), (kt_9, .boolean)] s := hK
  refine W.widen (k := (1 + rkk bf 0)) (n := (256 * (1 + rkk bf 0))) (by omega) (by omega) ?_
  have hrk9 := rkk_8 bf 0 (by omega)
  refine lv_astore_n (lv' := [(2, .ref r9), (1, .int (nI 0)), (0, .ref mo)]) hx hb dX6_rank_12 rfl hl (by decide) rfl (fun ls hl => ?_)
  refine lv_iconst (v := nI 0) hx hb dX6_rank_13 zki_0 ?_
  refine lv_istore_n (lv' := [(3, .int (nI 0)), (2, .ref r9), (1, .int (nI 0)), (0, .ref mo)]) hx hb dX6_rank_14 rfl hl (by decide) rfl (fun ls hl => ?_)
  have cut_15 : ∀ (nn9 : Nat) (i : Nat) (ta : Nat) (kt : ClassId) (hi : i ≤ 256) (hK : va_K D vwCl [(kb, .boolean), (kt, .boolean)] s) (hn9 : 256 - i < nn9) (H : Heap) (locs : List Loc) (hP : va_P D vwCl [(mo, .inr (8, [.int (nI 0), .ref ra, .ref ca, .ref ha, .int (nI kp), .ref ba, .int (nI hd), .ref wa])), (ba, .inl (kb, 256, .inl (aB bf))), (ta, .inl (kt, 256, .inl (aB (spk bf i))))] H) (hD : va_D A [(mo, .inr (8, [.int (nI 0), .ref ra, .ref ca, .ref ha, .int (nI kp), .ref ba, .int (nI hd), .ref wa])), (ba, .inl (kb, 256, .inl (aB bf))), (ta, .inl (kt, 256, .inl (aB (spk bf i))))]) (hS : va_S A s.heap H locs) (ls : Array Slot) (hl : lv_has ls 4 [(0, .ref mo), (1, .int (nI (rkk bf i))), (2, .ref ta), (3, .int (nI i))]), W p l e (headSpec wsX6_rank rm_c_X6_rank).room s m args below meth c H locs (tri (rkk bf i)) (256 * tri (rkk bf i)) (MQ below (q_c_X6_rank D s.heap.size mo ra ca ha ba wa kp hd kb th bf) args s 45 11520 A) (F0 m 15 ls []) := by
    intro nn9
    induction nn9 with
    | zero => intro i ta kt hi hK hn9; exact absurd hn9 (Nat.not_lt_zero _)
    | succ nn9 ih_15 =>
      intro i ta kt hi hK hn9 H locs hP hD hS ls hl
      refine lv_iload_n hx hb dX6_rank_15 rfl (lv_at hl 3 rfl) ?_
      refine lv_sipush (v := nI 256) hx hb dX6_rank_16 zks_256 ?_
      refine z_cge (tgt := 54) hx hb (by omega) (by omega) dX6_rank_19 (by decide) (fun c_19 => ?_) (fun c_19 => ?_)
      · have hrk9 := tri_45 _ (rkk_8 bf i (by omega))
        refine lv_iload_n hx hb dX6_rank_54 rfl (lv_at hl 1 rfl) ?_
        have hP9 := hP.sub (ws' := [(mo, .inr (8, [.int (nI 0), .ref ra, .ref ca, .ref ha, .int (nI kp), .ref ba, .int (nI hd), .ref wa])), (ba, .inl (kb, 256, .inl (aB bf)))]) [0, 1] rfl
        have hD9 := hD.sub (ws' := [(mo, .inr (8, [.int (nI 0), .ref ra, .ref ca, .ref ha, .int (nI kp), .ref ba, .int (nI hd), .ref wa])), (ba, .inl (kb, 256, .inl (aB bf)))]) [0, 1] (by decide) rfl
        have hK9 := hK.sub (tys' := [(kb, .boolean)]) [0] rfl
        subst hAe
        refine W.widen (k := 45) (n := 11520) (by omega) (by omega) ?_
        exact W.iret hx hb hr (fun t ht hW => ⟨⟨_, (), rfl, (by rw [show i = 256 by omega]), by rw [ht]; exact hP9, va_K.moved hW.alike hK9, hD9⟩, hS.F ht⟩) hS.2.2 dX6_rank_55
      · have hrk8 := rkk_8 bf i (by omega)
        refine lv_aload_n hx hb dX6_rank_22 rfl (lv_at hl 0 rfl) ?_
        refine va_get (D := D) (ci := 8) (v := .ref ba) (C := RX6) (T := TX6) (N := 8) hx hb hts nX6_rank_inX6 hown hK hP 0 rfl rfl 5 (by decide) (hts (.fieldLink RX6 19 "GamefieldModel" "basket" "[Z") (by decide +kernel)) (fun _ h9 => h9) rfl dX6_rank_23 ?_
        refine lv_iload_n hx hb dX6_rank_26 rfl (lv_at hl 3 rfl) ?_
        refine z_zald hx hb hK hP 1 0 rfl rfl (by omega) (by decide) dX6_rank_27 ?_
        refine z_beq (tgt := 48) hx hb dX6_rank_28 (by decide) (fun c_28 => ?_) (fun c_28 => ?_)
        · have eS : spk bf i = spk bf (i + 1) := by rw [spk, if_neg (fun q => by rw [c_28] at q; cases q.1)]
          have eR : rkk bf (i + 1) = rkk bf i := by rw [rkk, if_neg (fun q => by rw [c_28] at q; cases q.1)]
          refine lv_iinc (v := (nI (i + 1))) (lv' := [(3, .int (nI (i + 1))), (0, .ref mo), (1, .int (nI (rkk bf i))), (2, .ref ta)]) hx hb dX6_rank_48 hl (k := 3) rfl (z_inc i 1) (by decide) rfl (fun ls hl => ?_)
          refine lv_goto (tgt := 15) hx hb dX6_rank_51 (by decide) ?_
          have hl : lv_has ls 4 [(3, .int (nI (i + 1))), (0, .ref mo), (1, .int (nI (rkk bf (i + 1)))), (2, .ref ta)] := Eq.mp (congrArg (fun z9 => lv_has ls 4 [(3, .int (nI (i + 1))), (0, .ref mo), (1, .int z9), (2, .ref ta)]) (congrArg nI (show rkk bf i = rkk bf (i + 1) from by first | exact eR.symm | exact eS.symm))) hl
          have hP : va_P D vwCl [(mo, .inr (8, [.int (nI 0), .ref ra, .ref ca, .ref ha, .int (nI kp), .ref ba, .int (nI hd), .ref wa])), (ba, .inl (kb, 256, .inl (aB bf))), (ta, .inl (kt, 256, .inl (aB (spk bf (i + 1)))))] H := Eq.mp (congrArg (fun z9 => va_P D vwCl [(mo, .inr (8, [.int (nI 0), .ref ra, .ref ca, .ref ha, .int (nI kp), .ref ba, .int (nI hd), .ref wa])), (ba, .inl (kb, 256, .inl (aB bf))), (ta, .inl (kt, 256, .inl (aB z9)))] H) ((show spk bf i = spk bf (i + 1) from eS))) hP
          have hD : va_D A [(mo, .inr (8, [.int (nI 0), .ref ra, .ref ca, .ref ha, .int (nI kp), .ref ba, .int (nI hd), .ref wa])), (ba, .inl (kb, 256, .inl (aB bf))), (ta, .inl (kt, 256, .inl (aB (spk bf (i + 1)))))] := Eq.mp (congrArg (fun z9 => va_D A [(mo, .inr (8, [.int (nI 0), .ref ra, .ref ca, .ref ha, .int (nI kp), .ref ba, .int (nI hd), .ref wa])), (ba, .inl (kb, 256, .inl (aB bf))), (ta, .inl (kt, 256, .inl (aB z9)))]) ((show spk bf i = spk bf (i + 1) from eS))) hD
          refine W.widen (k := (tri (rkk bf (i + 1)))) (n := (256 * tri (rkk bf (i + 1)))) (by first | (rw [eS, tri]; omega) | (rw [eR]; omega) | exact Nat.le_of_eq (by rw [eR])) (by first | (rw [eS, tri]; omega) | (rw [eR]; omega) | exact Nat.le_of_eq (by rw [eR])) ?_
          exact ih_15 (i + 1) ta kt (by omega) (by first | exact hK | exact hK.sub [0, 3] rfl | exact hK.sub [0, 2] rfl) (by omega) H locs hP hD hS ls (lv_sub hl [1, 2, 3, 0] rfl)
        · refine lv_aload_n hx hb dX6_rank_31 rfl (lv_at hl 2 rfl) ?_
          refine lv_iload_n hx hb dX6_rank_32 rfl (lv_at hl 3 rfl) ?_
          refine z_zald hx hb hK hP 2 1 rfl rfl (by omega) (by decide) dX6_rank_33 ?_
          refine z_bne (tgt := 48) hx hb dX6_rank_34 (by decide) (fun c_34 => ?_) (fun c_34 => ?_)
          · have eS : spk bf i = spk bf (i + 1) := by rw [spk, if_neg (fun q => by rw [c_34] at q; cases q.2)]
            have eR : rkk bf (i + 1) = rkk bf i := by rw [rkk, if_neg (fun q => by rw [c_34] at q; cases q.2)]
            refine lv_iinc (v := (nI (i + 1))) (lv' := [(3, .int (nI (i + 1))), (0, .ref mo), (1, .int (nI (rkk bf i))), (2, .ref ta)]) hx hb dX6_rank_48 hl (k := 3) rfl (z_inc i 1) (by decide) rfl (fun ls hl => ?_)
            refine lv_goto (tgt := 15) hx hb dX6_rank_51 (by decide) ?_
            have hl : lv_has ls 4 [(3, .int (nI (i + 1))), (0, .ref mo), (1, .int (nI (rkk bf (i + 1)))), (2, .ref ta)] := Eq.mp (congrArg (fun z9 => lv_has ls 4 [(3, .int (nI (i + 1))), (0, .ref mo), (1, .int z9), (2, .ref ta)]) (congrArg nI (show rkk bf i = rkk bf (i + 1) from by first | exact eR.symm | exact eS.symm))) hl
            have hP : va_P D vwCl [(mo, .inr (8, [.int (nI 0), .ref ra, .ref ca, .ref ha, .int (nI kp), .ref ba, .int (nI hd), .ref wa])), (ba, .inl (kb, 256, .inl (aB bf))), (ta, .inl (kt, 256, .inl (aB (spk bf (i + 1)))))] H := Eq.mp (congrArg (fun z9 => va_P D vwCl [(mo, .inr (8, [.int (nI 0), .ref ra, .ref ca, .ref ha, .int (nI kp), .ref ba, .int (nI hd), .ref wa])), (ba, .inl (kb, 256, .inl (aB bf))), (ta, .inl (kt, 256, .inl (aB z9)))] H) ((show spk bf i = spk bf (i + 1) from eS))) hP
            have hD : va_D A [(mo, .inr (8, [.int (nI 0), .ref ra, .ref ca, .ref ha, .int (nI kp), .ref ba, .int (nI hd), .ref wa])), (ba, .inl (kb, 256, .inl (aB bf))), (ta, .inl (kt, 256, .inl (aB (spk bf (i + 1)))))] := Eq.mp (congrArg (fun z9 => va_D A [(mo, .inr (8, [.int (nI 0), .ref ra, .ref ca, .ref ha, .int (nI kp), .ref ba, .int (nI hd), .ref wa])), (ba, .inl (kb, 256, .inl (aB bf))), (ta, .inl (kt, 256, .inl (aB z9)))]) ((show spk bf i = spk bf (i + 1) from eS))) hD
            refine W.widen (k := (tri (rkk bf (i + 1)))) (n := (256 * tri (rkk bf (i + 1)))) (by first | (rw [eS, tri]; omega) | (rw [eR]; omega) | exact Nat.le_of_eq (by rw [eR])) (by first | (rw [eS, tri]; omega) | (rw [eR]; omega) | exact Nat.le_of_eq (by rw [eR])) ?_
            exact ih_15 (i + 1) ta kt (by omega) (by first | exact hK | exact hK.sub [0, 3] rfl | exact hK.sub [0, 2] rfl) (by omega) H locs hP hD hS ls (lv_sub hl [1, 2, 3, 0] rfl)
          · have eS : rkk bf (i + 1) = rkk bf i + 1 := by rw [rkk, if_pos ⟨c_28, c_34⟩]
            have hrk := rkk_8 bf (i + 1) (by omega)
            have htri := tri_7 (rkk bf i) (by omega)
            refine lv_iinc (v := (nI (rkk bf i + 1))) (lv' := [(1, .int (nI (rkk bf i + 1))), (0, .ref mo), (2, .ref ta), (3, .int (nI i))]) hx hb dX6_rank_37 hl (k := 1) rfl (z_inc (rkk bf i) 1) (by decide) rfl (fun ls hl => ?_)
            refine lv_aload_n hx hb dX6_rank_40 rfl (lv_at hl 1 rfl) ?_
            refine lv_iload_n hx hb dX6_rank_41 rfl (lv_at hl 3 rfl) ?_
            refine lv_iconst (v := nI 1) hx hb dX6_rank_42 zki_1 ?_
            refine z_add hx hb dX6_rank_43 ?_
            have hPc := hP.sub (ws' := [(mo, .inr (8, [.int (nI 0), .ref ra, .ref ca, .ref ha, .int (nI kp), .ref ba, .int (nI hd), .ref wa])), (ba, .inl (kb, 256, .inl (aB bf)))]) [0, 1] rfl
            have hDc := hD.sub (ws' := [(mo, .inr (8, [.int (nI 0), .ref ra, .ref ca, .ref ha, .int (nI kp), .ref ba, .int (nI hd), .ref wa])), (ba, .inl (kb, 256, .inl (aB bf)))]) [0, 1] (by decide) rfl
            have hKc := hK.sub (tys' := [(kb, .boolean)]) [0] rfl
            have hFc := va_free (wc := [(mo, .inr (8, [.int (nI 0), .ref ra, .ref ca, .ref ha, .int (nI kp), .ref ba, .int (nI hd), .ref wa])), (ba, .inl (kb, 256, .inl (aB bf)))]) hD hS hA [0, 1] rfl
            refine va_callr (va_runV (As := [.int (nI (i + 1))]) (rest := []) ⟨hx, hb, hml, hown, hts⟩ (c_X6_span l D H.size mo ra ca ha ba wa kp hd kb 0 bf (i + 1) (by omega)) (cwV 1 hts gX6_rank_X6_span rfl rfl rfl (by decide +kernel) ⟨Nat.le_of_ble_eq_true rfl, Nat.le_of_ble_eq_true rfl⟩) ⟨(z_fb2), va_recv hK hP (ci := 8) (q0 := 0) rfl rfl, fun U hU hW => ⟨rfl, by rw [hU], by rw [hU]; exact hPc, va_K.moved hW.alike hKc, hDc.weaken (fun _ _ _ _ => trivial)⟩⟩ rfl rfl hl.1 rfl (lv_room (Nat.le_of_ble_eq_true rfl)) dX6_rank_44 ⟨z_room (c := 45) rfl (by omega), z_room (c := 11520) rfl (by omega)⟩) hS (fun q _ h => hFc q h) hFc (fun u44 r44 t H locs ht hvm e44 hB hz1 hk1 hS => ?_)
            obtain ⟨kt_44, rfl⟩ : ∃ z, z = u44 := ⟨_, rfl⟩
            try dsimp only at e44 hB
            obtain ⟨hP1, hK1, hD1⟩ := hB
            rw [ht] at hP1
            obtain ⟨hP, hD⟩ := va_join (wr := [(ta, .inl (kt, 256, .inl (aB (spk bf i))))]) (w1 := [(mo, .inr (8, [.int (nI 0), .ref ra, .ref ca, .ref ha, .int (nI kp), .ref ba, .int (nI hd), .ref wa])), (ba, .inl (kb, 256, .inl (aB bf))), (r44, .inl (kt_44, 256, .inl (aB (spk bf (i + 1)))))]) hP hD [0, 1] [2] rfl rfl (by decide) (by decide) hk1 hFc hP1 hD1
            have hP : va_P D vwCl [(ta, .inl (kt, 256, .inl (aB (spk bf i)))), (mo, .inr (8, [.int (nI 0), .ref ra, .ref ca, .ref ha, .int (nI kp), .ref ba, .int (nI hd), .ref wa])), (ba, .inl (kb, 256, .inl (aB bf))), (r44, .inl (kt_44, 256, .inl (aB (spk bf (i + 1)))))] H := hP
            have hD : va_D A [(ta, .inl (kt, 256, .inl (aB (spk bf i)))), (mo, .inr (8, [.int (nI 0), .ref ra, .ref ca, .ref ha, .int (nI kp), .ref ba, .int (nI hd), .ref wa])), (ba, .inl (kb, 256, .inl (aB bf))), (r44, .inl (kt_44, 256, .inl (aB (spk bf (i + 1)))))] := hD
            have hK := hK.app (va_K.moved hvm.symm hK1)
            have hK : va_K D vwCl [(kb, .boolean), (kt, .boolean), (kb, .boolean), (kt_44, .boolean)] s := hK
            refine W.widen (k := (tri (rkk bf i)) + (1 + rkk bf (i + 1))) (n := (256 * tri (rkk bf i)) + (256 * (1 + rkk bf (i + 1)))) (by omega) (by omega) ?_
            have hrk44 := rkk_8 bf (i + 1) (by omega)
            refine lv_astore_n (lv' := [(2, .ref r44), (1, .int (nI (rkk bf i + 1))), (0, .ref mo), (3, .int (nI i))]) hx hb dX6_rank_47 rfl hl (by decide) rfl (fun ls hl => ?_)
            refine lv_iinc (v := (nI (i + 1))) (lv' := [(3, .int (nI (i + 1))), (2, .ref r44), (1, .int (nI (rkk bf i + 1))), (0, .ref mo)]) hx hb dX6_rank_48 hl (k := 3) rfl (z_inc i 1) (by decide) rfl (fun ls hl => ?_)
            refine lv_goto (tgt := 15) hx hb dX6_rank_51 (by decide) ?_
            have hl : lv_has ls 4 [(3, .int (nI (i + 1))), (2, .ref r44), (1, .int (nI (rkk bf (i + 1)))), (0, .ref mo)] := Eq.mp (congrArg (fun z9 => lv_has ls 4 [(3, .int (nI (i + 1))), (2, .ref r44), (1, .int z9), (0, .ref mo)]) (congrArg nI (show rkk bf i + 1 = rkk bf (i + 1) from by first | exact eR.symm | exact eS.symm))) hl
            refine W.widen (k := (tri (rkk bf (i + 1)))) (n := (256 * tri (rkk bf (i + 1)))) (by first | (rw [eS, tri]; omega) | (rw [eR]; omega) | exact Nat.le_of_eq (by rw [eR])) (by first | (rw [eS, tri]; omega) | (rw [eR]; omega) | exact Nat.le_of_eq (by rw [eR])) ?_
            exact ih_15 (i + 1) r44 kt_44 (by omega) (by first | exact hK | exact hK.sub [0, 3] rfl | exact hK.sub [0, 2] rfl) (by omega) H locs (hP.sub [1, 2, 3] rfl) (hD.sub [1, 2, 3] (by decide) rfl) hS ls (lv_sub hl [3, 2, 1, 0] rfl)
  have hl : lv_has ls 4 [(3, .int (nI 0)), (2, .ref r9), (1, .int (nI (rkk bf 0))), (0, .ref mo)] := Eq.mp (congrArg (fun z9 => lv_has ls 4 [(3, .int (nI 0)), (2, .ref r9), (1, .int z9), (0, .ref mo)]) (congrArg nI (show 0 = rkk bf 0 from rfl))) hl
  refine W.widen (k := (tri (rkk bf 0))) (n := (256 * tri (rkk bf 0))) (Nat.le_refl _) (Nat.le_refl _) ?_
  exact cut_15 ((256 - 0) + 1) 0 r9 kt_9 (by omega) (by first | exact hK | exact hK.sub [0, 2] rfl) (Nat.lt_succ_self _) H locs hP hD hS ls (lv_sub hl [3, 2, 1, 0] rfl)
