/-! The reference: sums and products by trying, fields, the board's places. -/
theorem nbt_lt {n : Nat} {x : Int32} (h : inN n x = false) (h2 : ¬ x < 0) : nI n ≤ x := by
  rcases Decidable.em (nI n ≤ x) with q | q
  · exact q
  · rw [inN_t h2 q] at h; cases h
theorem nX6_triedSum_inX6 : ∀ w ∈ u_ws RX6 TX6 8, w ∈ wsX6_triedSum := by decide +kernel
theorem nX6_triedProduct_inX6 : ∀ w ∈ u_ws RX6 TX6 8, w ∈ wsX6_triedProduct := by decide +kernel
theorem nX6_times_inX6 : ∀ w ∈ u_ws RX6 TX6 8, w ∈ wsX6_times := by decide +kernel
theorem nX6_turn_inX6 : ∀ w ∈ u_ws RX6 TX6 8, w ∈ wsX6_turn := by decide +kernel
abbrev rm_c_X6_triedSumOf : Room := { frames := 1, cells := 1, slots := 256, locals := 25 }
abbrev q_c_X6_triedSumOf (D : va_G) (sz : Nat) (u : Nat) (v : Nat) : Array Value → State → Outcome → State → Prop := va_Qi (fun r (_ : Unit) => r = (nI (ts u v))) (fun (_ : Unit) t => va_P D vwCl [] t.heap ∧ va_K D vwCl [] t ∧ va_D (va_A [] sz) []) (va_A [] sz)
set_option maxHeartbeats 4000000 in
set_option maxRecDepth 100000 in
theorem c_X6_triedSumOf (l : Launch) (D : va_G) (sz : Nat) (u : Nat) (v : Nat) (hu : u < 256) (hv8 : v < 256) : Met l yX6_triedSumOf wsX6_triedSumOf rm_c_X6_triedSumOf (va_Pc [.int (nI u), .int (nI v)] (fun U => U.heap.size = sz ∧ va_P D vwCl [] U.heap ∧ va_K D vwCl [] U ∧ va_D (fun _ => True) [])) (q_c_X6_triedSumOf D sz u v) 1 256 (va_A [] sz) := by
  refine Met.ofW (cc := cX6_triedSumOf) (maxL := 4) (ret := (some .int)) (by decide) rfl ?_
  intro p e s m args below meth c s₁ B hml hv
  obtain ⟨hargs, hsz, hP, hK, hD0⟩ := hv
  have hx := B.exec
  have hb := B.bytes
  have hr := B.returns
  have hts := atoms_spec (ws := wsX6_triedSumOf) B.pre
  have hown : s.vm.findClass RX6 = some m.cls := findClass_of_methodNamed B.named
  have hlocks := B.notSynchronized
  subst hsz
  have hD := hD0.self (sz := s.heap.size)
  generalize hAe : va_A [] s.heap.size = A at hD ⊢
  have hA : ∀ q : Nat, s.heap.size ≤ q → A q := fun q h => by rw [← hAe]; exact Or.inr h
  have hS : va_S A s.heap s.heap [] := va_S.rf
  have hl := lv_entry ([.int (nI u), .int (nI v)]) (n := 4) (Nat.le_of_ble_eq_true rfl)
  refine W.eq (g2 := F0 m 0 (lg_sl ([.int (nI u), .int (nI v)]) ++ List.replicate (4 - (lg_sl ([.int (nI u), .int (nI v)])).length) Slot.unset).toArray []) (by rw [hargs]; exact lg_entry_eq _ _ _) ?_
  generalize (lg_sl ([.int (nI u), .int (nI v)]) ++ List.replicate (4 - (lg_sl ([.int (nI u), .int (nI v)])).length) Slot.unset).toArray = ls at hl ⊢
  have hl : lv_has ls 4 [(0, .int (nI u)), (1, .int (nI v))] := hl
  refine lv_sipush (v := nI 256) hx hb dX6_triedSumOf_0 zks_256 ?_
  refine va_newa (atype := .boolean) (N' := 256) (a0 := (256, .inl (aB (fun _ => false)))) hx hb (hts (.arrayClass .boolean) (by decide +kernel)) rfl hK hP hD hS hA (fun _ => rfl) (z_npos (by decide)) (nI_clamp (by decide)) (by decide) (Nat.le_of_ble_eq_true rfl) (Nat.le_of_ble_eq_true rfl) dX6_triedSumOf_3 (fun q3 cA3 H hK hP hD hS => ?_)
  have hK : va_K D vwCl [(cA3, .boolean)] s := hK
  have hP : va_P D vwCl [(q3, .inl (cA3, 256, .inl (aB (fun _ => false))))] H := hP
  have hD : va_D A [(q3, .inl (cA3, 256, .inl (aB (fun _ => false))))] := hD
  refine W.widen (k := 1) (n := 256) (Nat.le_of_ble_eq_true rfl) (Nat.le_of_ble_eq_true rfl) ?_
  refine lv_astore_n (lv' := [(2, .ref q3), (0, .int (nI u)), (1, .int (nI v))]) hx hb dX6_triedSumOf_5 rfl hl (by decide) rfl (fun ls hl => ?_)
  refine lv_iconst (v := nI 0) hx hb dX6_triedSumOf_6 zki_0 ?_
  refine lv_istore_n (lv' := [(3, .int (nI 0)), (2, .ref q3), (0, .int (nI u)), (1, .int (nI v))]) hx hb dX6_triedSumOf_7 rfl hl (by decide) rfl (fun ls hl => ?_)
  have cut_8 : ∀ (nn9 : Nat) (i : Nat) (hi : i ≤ u) (hn9 : u - i < nn9) (H : Heap) (locs : List Loc) (hP : va_P D vwCl [(q3, .inl (cA3, 256, .inl (aB (ts1 v i))))] H) (hD : va_D A [(q3, .inl (cA3, 256, .inl (aB (ts1 v i))))]) (hS : va_S A s.heap H locs) (ls : Array Slot) (hl : lv_has ls 4 [(0, .int (nI u)), (1, .int (nI v)), (2, .ref q3), (3, .int (nI i))]), W p l e (headSpec wsX6_triedSumOf rm_c_X6_triedSumOf).room s m args below meth c H locs 1 256 (MQ below (q_c_X6_triedSumOf D s.heap.size u v) args s 1 256 A) (F0 m 8 ls []) := by
    intro nn9
    induction nn9 with
    | zero => intro i hi hn9; exact absurd hn9 (Nat.not_lt_zero _)
    | succ nn9 ih_8 =>
      intro i hi hn9 H locs hP hD hS ls hl
      refine lv_iload_n hx hb dX6_triedSumOf_8 rfl (lv_at hl 3 rfl) ?_
      refine lv_iload_n hx hb dX6_triedSumOf_9 rfl (lv_at hl 0 rfl) ?_
      refine z_cge (tgt := 27) hx hb (by omega) (by omega) dX6_triedSumOf_10 (by decide) (fun c_10 => ?_) (fun c_10 => ?_)
      · refine lv_iconst (v := nI 0) hx hb dX6_triedSumOf_27 zki_0 ?_
        refine lv_istore_n (lv' := [(3, .int (nI 0)), (0, .int (nI u)), (1, .int (nI v)), (2, .ref q3)]) hx hb dX6_triedSumOf_28 rfl hl (by decide) rfl (fun ls hl => ?_)
        have cut_29 : ∀ (nn9 : Nat) (i : Nat) (hi : i ≤ v) (hn9 : v - i < nn9) (H : Heap) (locs : List Loc) (hP : va_P D vwCl [(q3, .inl (cA3, 256, .inl (aB (ts2 u v i))))] H) (hD : va_D A [(q3, .inl (cA3, 256, .inl (aB (ts2 u v i))))]) (hS : va_S A s.heap H locs) (ls : Array Slot) (hl : lv_has ls 4 [(0, .int (nI u)), (1, .int (nI v)), (2, .ref q3), (3, .int (nI i))]), W p l e (headSpec wsX6_triedSumOf rm_c_X6_triedSumOf).room s m args below meth c H locs 1 256 (MQ below (q_c_X6_triedSumOf D s.heap.size u v) args s 1 256 A) (F0 m 29 ls []) := by
          intro nn9
          induction nn9 with
          | zero => intro i hi hn9; exact absurd hn9 (Nat.not_lt_zero _)
          | succ nn9 ih_29 =>
            intro i hi hn9 H locs hP hD hS ls hl
            refine lv_iload_n hx hb dX6_triedSumOf_29 rfl (lv_at hl 3 rfl) ?_
            refine lv_iload_n hx hb dX6_triedSumOf_30 rfl (lv_at hl 1 rfl) ?_
            refine z_cge (tgt := 48) hx hb (by omega) (by omega) dX6_triedSumOf_31 (by decide) (fun c_31 => ?_) (fun c_31 => ?_)
            · refine lv_aload_n hx hb dX6_triedSumOf_48 rfl (lv_at hl 2 rfl) ?_
              refine z_ci (va_runS (As := [.ref q3]) (rest := []) ⟨hx, hb, hml, hown, hts⟩ (c_X6_leastOutOf_256 l D q3 cA3 (ts2 u v i) ) (va_cwS 1 hts gX6_triedSumOf_X6_leastOutOf rfl rfl rfl (by decide +kernel) ⟨Nat.le_of_ble_eq_true rfl, Nat.le_of_ble_eq_true rfl⟩) ⟨(z_fb1), fun U hU hW => ⟨rfl, by rw [hU]; exact hP, va_K.moved hW.alike hK⟩⟩ rfl rfl hl.1 rfl (lv_room (Nat.le_of_ble_eq_true rfl)) dX6_triedSumOf_49 ⟨Nat.le_of_ble_eq_true rfl, Nat.le_of_ble_eq_true rfl⟩) (fun r49 e49 => ?_)
              subst e49
              have hP9 := hP.sub (ws' := []) [] rfl
              have hD9 := hD.sub (ws' := []) [] (by decide) rfl
              have hK9 := hK.sub (tys' := []) [] rfl
              subst hAe
              refine W.widen (k := 1) (n := 256) (Nat.le_of_ble_eq_true rfl) (Nat.le_of_ble_eq_true rfl) ?_
              exact W.iret hx hb hr (fun t ht hW => ⟨⟨_, (), rfl, (by rw [show i = v by omega]; rfl), by rw [ht]; exact hP9, va_K.moved hW.alike hK9, hD9⟩, hS.F ht⟩) hS.2.2 dX6_triedSumOf_52
            · refine lv_aload_n hx hb dX6_triedSumOf_34 rfl (lv_at hl 2 rfl) ?_
              refine lv_iload_n hx hb dX6_triedSumOf_35 rfl (lv_at hl 0 rfl) ?_
              refine lv_iload_n hx hb dX6_triedSumOf_36 rfl (lv_at hl 3 rfl) ?_
              refine z_ci (va_runS (As := [.int (nI u), .int (nI i)]) (rest := [.ref q3]) ⟨hx, hb, hml, hown, hts⟩ (c_X6_sumOf l D u i (by omega) (by omega)) (va_cwS 2 hts gX6_triedSumOf_X6_sumOf rfl rfl rfl (by decide +kernel) ⟨Nat.le_of_ble_eq_true rfl, Nat.le_of_ble_eq_true rfl⟩) ⟨z_fb0, fun U hU hW => ⟨rfl, trivial⟩⟩ rfl rfl hl.1 rfl (lv_room (Nat.le_of_ble_eq_true rfl)) dX6_triedSumOf_37 ⟨Nat.le_of_ble_eq_true rfl, Nat.le_of_ble_eq_true rfl⟩) (fun r37 e37 => ?_)
              subst e37
              have hx37 : u ^^^ i < 256 := zx8 (by omega) (by omega)
              refine lv_iconst (v := nI 1) hx hb dX6_triedSumOf_40 zki_1 ?_
              refine zt (show nI 1 = bI true from rfl) ?_
              refine z_zast hx hb hK hP hD hS 0 0 rfl rfl (by omega) (by decide) dX6_triedSumOf_41 (fun H locs hP hD hS => ?_)
              have hP : va_P D vwCl [(q3, .inl (cA3, 256, .inl (aB (va_up (ts2 u v i) (u ^^^ i) true))))] H := hP
              have hD : va_D A [(q3, .inl (cA3, 256, .inl (aB (va_up (ts2 u v i) (u ^^^ i) true))))] := hD
              refine lv_iinc (v := (nI (i + 1))) (lv' := [(3, .int (nI (i + 1))), (0, .int (nI u)), (1, .int (nI v)), (2, .ref q3)]) hx hb dX6_triedSumOf_42 hl (k := 3) rfl (z_inc i 1) (by decide) rfl (fun ls hl => ?_)
              refine lv_goto (tgt := 29) hx hb dX6_triedSumOf_45 (by decide) ?_
              have hP : va_P D vwCl [(q3, .inl (cA3, 256, .inl (aB (ts2 u v (i + 1)))))] H := Eq.mp (congrArg (fun z9 => va_P D vwCl [(q3, .inl (cA3, 256, .inl (aB z9)))] H) ((show va_up (ts2 u v i) (u ^^^ i) true = ts2 u v (i + 1) from rfl))) hP
              have hD : va_D A [(q3, .inl (cA3, 256, .inl (aB (ts2 u v (i + 1)))))] := Eq.mp (congrArg (fun z9 => va_D A [(q3, .inl (cA3, 256, .inl (aB z9)))]) ((show va_up (ts2 u v i) (u ^^^ i) true = ts2 u v (i + 1) from rfl))) hD
              exact ih_29 (i + 1) (by omega) (by omega) H locs hP hD hS ls (lv_sub hl [1, 2, 3, 0] rfl)
        have hP : va_P D vwCl [(q3, .inl (cA3, 256, .inl (aB (ts2 u v 0))))] H := Eq.mp (congrArg (fun z9 => va_P D vwCl [(q3, .inl (cA3, 256, .inl (aB z9)))] H) ((show ts1 v i = ts2 u v 0 from by rw [show i = u by omega]; rfl))) hP
        have hD : va_D A [(q3, .inl (cA3, 256, .inl (aB (ts2 u v 0))))] := Eq.mp (congrArg (fun z9 => va_D A [(q3, .inl (cA3, 256, .inl (aB z9)))]) ((show ts1 v i = ts2 u v 0 from by rw [show i = u by omega]; rfl))) hD
        exact cut_29 ((v - 0) + 1) 0 (by omega) (Nat.lt_succ_self _) H locs hP hD hS ls (lv_sub hl [1, 2, 3, 0] rfl)
      · refine lv_aload_n hx hb dX6_triedSumOf_13 rfl (lv_at hl 2 rfl) ?_
        refine lv_iload_n hx hb dX6_triedSumOf_14 rfl (lv_at hl 3 rfl) ?_
        refine lv_iload_n hx hb dX6_triedSumOf_15 rfl (lv_at hl 1 rfl) ?_
        refine z_ci (va_runS (As := [.int (nI i), .int (nI v)]) (rest := [.ref q3]) ⟨hx, hb, hml, hown, hts⟩ (c_X6_sumOf l D i v (by omega) (by omega)) (va_cwS 2 hts gX6_triedSumOf_X6_sumOf rfl rfl rfl (by decide +kernel) ⟨Nat.le_of_ble_eq_true rfl, Nat.le_of_ble_eq_true rfl⟩) ⟨z_fb0, fun U hU hW => ⟨rfl, trivial⟩⟩ rfl rfl hl.1 rfl (lv_room (Nat.le_of_ble_eq_true rfl)) dX6_triedSumOf_16 ⟨Nat.le_of_ble_eq_true rfl, Nat.le_of_ble_eq_true rfl⟩) (fun r16 e16 => ?_)
        subst e16
        have hx16 : i ^^^ v < 256 := zx8 (by omega) (by omega)
        refine lv_iconst (v := nI 1) hx hb dX6_triedSumOf_19 zki_1 ?_
        refine zt (show nI 1 = bI true from rfl) ?_
        refine z_zast hx hb hK hP hD hS 0 0 rfl rfl (by omega) (by decide) dX6_triedSumOf_20 (fun H locs hP hD hS => ?_)
        have hP : va_P D vwCl [(q3, .inl (cA3, 256, .inl (aB (va_up (ts1 v i) (i ^^^ v) true))))] H := hP
        have hD : va_D A [(q3, .inl (cA3, 256, .inl (aB (va_up (ts1 v i) (i ^^^ v) true))))] := hD
        refine lv_iinc (v := (nI (i + 1))) (lv' := [(3, .int (nI (i + 1))), (0, .int (nI u)), (1, .int (nI v)), (2, .ref q3)]) hx hb dX6_triedSumOf_21 hl (k := 3) rfl (z_inc i 1) (by decide) rfl (fun ls hl => ?_)
        refine lv_goto (tgt := 8) hx hb dX6_triedSumOf_24 (by decide) ?_
        have hP : va_P D vwCl [(q3, .inl (cA3, 256, .inl (aB (ts1 v (i + 1)))))] H := Eq.mp (congrArg (fun z9 => va_P D vwCl [(q3, .inl (cA3, 256, .inl (aB z9)))] H) ((show va_up (ts1 v i) (i ^^^ v) true = ts1 v (i + 1) from rfl))) hP
        have hD : va_D A [(q3, .inl (cA3, 256, .inl (aB (ts1 v (i + 1)))))] := Eq.mp (congrArg (fun z9 => va_D A [(q3, .inl (cA3, 256, .inl (aB z9)))]) ((show va_up (ts1 v i) (i ^^^ v) true = ts1 v (i + 1) from rfl))) hD
        exact ih_8 (i + 1) (by omega) (by omega) H locs hP hD hS ls (lv_sub hl [1, 2, 3, 0] rfl)
  have hP : va_P D vwCl [(q3, .inl (cA3, 256, .inl (aB (ts1 v 0))))] H := Eq.mp (congrArg (fun z9 => va_P D vwCl [(q3, .inl (cA3, 256, .inl (aB z9)))] H) ((show (fun _ => false) = ts1 v 0 from rfl))) hP
  have hD : va_D A [(q3, .inl (cA3, 256, .inl (aB (ts1 v 0))))] := Eq.mp (congrArg (fun z9 => va_D A [(q3, .inl (cA3, 256, .inl (aB z9)))]) ((show (fun _ => false) = ts1 v 0 from rfl))) hD
  exact cut_8 ((u - 0) + 1) 0 (by omega) (Nat.lt_succ_self _) H _ hP hD hS ls (lv_sub hl [2, 3, 1, 0] rfl)
abbrev rm_c_X6_triedProductOf : Room := { frames := 3, cells := 1, slots := 17, locals := 87 }
abbrev q_c_X6_triedProductOf (D : va_G) (sz : Nat) (u : Nat) (v : Nat) : Array Value → State → Outcome → State → Prop := va_Qi (fun r (_ : Unit) => r = (nI (tp u v))) (fun (_ : Unit) t => va_P D vwCl [] t.heap ∧ va_K D vwCl [] t ∧ va_D (va_A [] sz) []) (va_A [] sz)
set_option maxHeartbeats 4000000 in
set_option maxRecDepth 100000 in
theorem c_X6_triedProductOf (l : Launch) (D : va_G) (sz : Nat) (u : Nat) (v : Nat) (hu : u < 16) (hv8 : v < 16) : Met l yX6_triedProductOf wsX6_triedProductOf rm_c_X6_triedProductOf (va_Pc [.int (nI u), .int (nI v)] (fun U => U.heap.size = sz ∧ va_P D vwCl [] U.heap ∧ va_K D vwCl [] U ∧ va_D (fun _ => True) [])) (q_c_X6_triedProductOf D sz u v) 1 17 (va_A [] sz) := by
  refine Met.ofW (cc := cX6_triedProductOf) (maxL := 5) (ret := (some .int)) (by decide) rfl ?_
  intro p e s m args below meth c s₁ B hml hv
  obtain ⟨hargs, hsz, hP, hK, hD0⟩ := hv
  have hx := B.exec
  have hb := B.bytes
  have hr := B.returns
  have hts := atoms_spec (ws := wsX6_triedProductOf) B.pre
  have hown : s.vm.findClass RX6 = some m.cls := findClass_of_methodNamed B.named
  have hlocks := B.notSynchronized
  subst hsz
  have hD := hD0.self (sz := s.heap.size)
  generalize hAe : va_A [] s.heap.size = A at hD ⊢
  have hA : ∀ q : Nat, s.heap.size ≤ q → A q := fun q h => by rw [← hAe]; exact Or.inr h
  have hS : va_S A s.heap s.heap [] := va_S.rf
  have hl := lv_entry ([.int (nI u), .int (nI v)]) (n := 5) (Nat.le_of_ble_eq_true rfl)
  refine W.eq (g2 := F0 m 0 (lg_sl ([.int (nI u), .int (nI v)]) ++ List.replicate (5 - (lg_sl ([.int (nI u), .int (nI v)])).length) Slot.unset).toArray []) (by rw [hargs]; exact lg_entry_eq _ _ _) ?_
  generalize (lg_sl ([.int (nI u), .int (nI v)]) ++ List.replicate (5 - (lg_sl ([.int (nI u), .int (nI v)])).length) Slot.unset).toArray = ls at hl ⊢
  have hl : lv_has ls 5 [(0, .int (nI u)), (1, .int (nI v))] := hl
  refine lv_bipush (v := nI 17) hx hb dX6_triedProductOf_0 zkb_17 ?_
  refine va_newa (atype := .boolean) (N' := 17) (a0 := (17, .inl (aB (fun _ => false)))) hx hb (hts (.arrayClass .boolean) (by decide +kernel)) rfl hK hP hD hS hA (fun _ => rfl) (z_npos (by decide)) (nI_clamp (by decide)) (by decide) (Nat.le_of_ble_eq_true rfl) (Nat.le_of_ble_eq_true rfl) dX6_triedProductOf_2 (fun q2 cA2 H hK hP hD hS => ?_)
  have hK : va_K D vwCl [(cA2, .boolean)] s := hK
  have hP : va_P D vwCl [(q2, .inl (cA2, 17, .inl (aB (fun _ => false))))] H := hP
  have hD : va_D A [(q2, .inl (cA2, 17, .inl (aB (fun _ => false))))] := hD
  refine W.widen (k := 1) (n := 17) (Nat.le_of_ble_eq_true rfl) (Nat.le_of_ble_eq_true rfl) ?_
  refine lv_astore_n (lv' := [(2, .ref q2), (0, .int (nI u)), (1, .int (nI v))]) hx hb dX6_triedProductOf_4 rfl hl (by decide) rfl (fun ls hl => ?_)
  refine lv_iconst (v := nI 0) hx hb dX6_triedProductOf_5 zki_0 ?_
  refine lv_istore_n (lv' := [(3, .int (nI 0)), (2, .ref q2), (0, .int (nI u)), (1, .int (nI v))]) hx hb dX6_triedProductOf_6 rfl hl (by decide) rfl (fun ls hl => ?_)
  have cut_7 : ∀ (nn9 : Nat) (i : Nat) (hi : i ≤ u) (hn9 : u - i < nn9) (H : Heap) (locs : List Loc) (hP : va_P D vwCl [(q2, .inl (cA2, 17, .inl (aB (tpi u v i))))] H) (hD : va_D A [(q2, .inl (cA2, 17, .inl (aB (tpi u v i))))]) (hS : va_S A s.heap H locs) (ls : Array Slot) (hl : lv_has ls 5 [(0, .int (nI u)), (1, .int (nI v)), (2, .ref q2), (3, .int (nI i))]), W p l e (headSpec wsX6_triedProductOf rm_c_X6_triedProductOf).room s m args below meth c H locs 1 17 (MQ below (q_c_X6_triedProductOf D s.heap.size u v) args s 1 17 A) (F0 m 7 ls []) := by
    intro nn9
    induction nn9 with
    | zero => intro i hi hn9; exact absurd hn9 (Nat.not_lt_zero _)
    | succ nn9 ih_7 =>
      intro i hi hn9 H locs hP hD hS ls hl
      refine lv_iload_n hx hb dX6_triedProductOf_7 rfl (lv_at hl 3 rfl) ?_
      refine lv_iload_n hx hb dX6_triedProductOf_8 rfl (lv_at hl 0 rfl) ?_
      refine z_cge (tgt := 59) hx hb (by omega) (by omega) dX6_triedProductOf_9 (by decide) (fun c_9 => ?_) (fun c_9 => ?_)
      · refine lv_aload_n hx hb dX6_triedProductOf_59 rfl (lv_at hl 2 rfl) ?_
        refine z_ci (va_runS (As := [.ref q2]) (rest := []) ⟨hx, hb, hml, hown, hts⟩ (c_X6_leastOutOf_17 l D q2 cA2 (tpi u v i) ) (va_cwS 1 hts gX6_triedProductOf_X6_leastOutOf rfl rfl rfl (by decide +kernel) ⟨Nat.le_of_ble_eq_true rfl, Nat.le_of_ble_eq_true rfl⟩) ⟨(z_fb1), fun U hU hW => ⟨rfl, by rw [hU]; exact hP, va_K.moved hW.alike hK⟩⟩ rfl rfl hl.1 rfl (lv_room (Nat.le_of_ble_eq_true rfl)) dX6_triedProductOf_60 ⟨Nat.le_of_ble_eq_true rfl, Nat.le_of_ble_eq_true rfl⟩) (fun r60 e60 => ?_)
        subst e60
        have hP9 := hP.sub (ws' := []) [] rfl
        have hD9 := hD.sub (ws' := []) [] (by decide) rfl
        have hK9 := hK.sub (tys' := []) [] rfl
        subst hAe
        refine W.widen (k := 1) (n := 17) (Nat.le_of_ble_eq_true rfl) (Nat.le_of_ble_eq_true rfl) ?_
        exact W.iret hx hb hr (fun t ht hW => ⟨⟨_, (), rfl, (by rw [show i = u by omega, tp_17 hu hv8]), by rw [ht]; exact hP9, va_K.moved hW.alike hK9, hD9⟩, hS.F ht⟩) hS.2.2 dX6_triedProductOf_63
      · refine lv_iconst (v := nI 0) hx hb dX6_triedProductOf_12 zki_0 ?_
        refine lv_istore (lv' := [(4, .int (nI 0)), (0, .int (nI u)), (1, .int (nI v)), (2, .ref q2), (3, .int (nI i))]) hx hb dX6_triedProductOf_13 hl (by decide) rfl (fun ls hl => ?_)
        have cut_15 : ∀ (nn9 : Nat) (k : Nat) (hk : k ≤ v) (hn9 : v - k < nn9) (H : Heap) (locs : List Loc) (hP : va_P D vwCl [(q2, .inl (cA2, 17, .inl (aB (tpj u v i (tpi u v i) k))))] H) (hD : va_D A [(q2, .inl (cA2, 17, .inl (aB (tpj u v i (tpi u v i) k))))]) (hS : va_S A s.heap H locs) (ls : Array Slot) (hl : lv_has ls 5 [(0, .int (nI u)), (1, .int (nI v)), (2, .ref q2), (3, .int (nI i)), (4, .int (nI k))]), W p l e (headSpec wsX6_triedProductOf rm_c_X6_triedProductOf).room s m args below meth c H locs 1 17 (MQ below (q_c_X6_triedProductOf D s.heap.size u v) args s 1 17 A) (F0 m 15 ls []) := by
          intro nn9
          induction nn9 with
          | zero => intro k hk hn9; exact absurd hn9 (Nat.not_lt_zero _)
          | succ nn9 ih_15 =>
            intro k hk hn9 H locs hP hD hS ls hl
            refine lv_iload hx hb dX6_triedProductOf_15 (lv_at hl 4 rfl) ?_
            refine lv_iload_n hx hb dX6_triedProductOf_17 rfl (lv_at hl 1 rfl) ?_
            refine z_cge (tgt := 53) hx hb (by omega) (by omega) dX6_triedProductOf_18 (by decide) (fun c_18 => ?_) (fun c_18 => ?_)
            · refine lv_iinc (v := (nI (i + 1))) (lv' := [(3, .int (nI (i + 1))), (0, .int (nI u)), (1, .int (nI v)), (2, .ref q2), (4, .int (nI k))]) hx hb dX6_triedProductOf_53 hl (k := 3) rfl (z_inc i 1) (by decide) rfl (fun ls hl => ?_)
              refine lv_goto (tgt := 7) hx hb dX6_triedProductOf_56 (by decide) ?_
              have hP : va_P D vwCl [(q2, .inl (cA2, 17, .inl (aB (tpi u v (i + 1)))))] H := Eq.mp (congrArg (fun z9 => va_P D vwCl [(q2, .inl (cA2, 17, .inl (aB z9)))] H) ((show tpj u v i (tpi u v i) k = tpi u v (i + 1) from by rw [show k = v by omega]; rfl))) hP
              have hD : va_D A [(q2, .inl (cA2, 17, .inl (aB (tpi u v (i + 1)))))] := Eq.mp (congrArg (fun z9 => va_D A [(q2, .inl (cA2, 17, .inl (aB z9)))]) ((show tpj u v i (tpi u v i) k = tpi u v (i + 1) from by rw [show k = v by omega]; rfl))) hD
              exact ih_7 (i + 1) (by omega) (by omega) H locs hP hD hS ls (lv_sub hl [1, 2, 3, 0] rfl)
            · refine lv_aload_n hx hb dX6_triedProductOf_21 rfl (lv_at hl 2 rfl) ?_
              refine lv_iload_n hx hb dX6_triedProductOf_22 rfl (lv_at hl 3 rfl) ?_
              refine lv_iload_n hx hb dX6_triedProductOf_23 rfl (lv_at hl 1 rfl) ?_
              refine z_ci (va_runS (As := [.int (nI i), .int (nI v)]) (rest := [.ref q2]) ⟨hx, hb, hml, hown, hts⟩ (c_X6_productOf_16 l D i v (by omega) (by omega)) (va_cwS 2 hts gX6_triedProductOf_X6_productOf rfl rfl rfl (by decide +kernel) ⟨Nat.le_of_ble_eq_true rfl, Nat.le_of_ble_eq_true rfl⟩) ⟨z_fb0, fun U hU hW => ⟨rfl, trivial⟩⟩ rfl rfl hl.1 rfl (lv_room (Nat.le_of_ble_eq_true rfl)) dX6_triedProductOf_24 ⟨Nat.le_of_ble_eq_true rfl, Nat.le_of_ble_eq_true rfl⟩) (fun r24 e24 => ?_)
              subst e24
              have hn24 : np i v < 16 := np_16 _ (by omega) _ (by omega)
              refine lv_iload_n hx hb dX6_triedProductOf_27 rfl (lv_at hl 0 rfl) ?_
              refine lv_iload hx hb dX6_triedProductOf_28 (lv_at hl 4 rfl) ?_
              refine z_ci (va_runS (As := [.int (nI u), .int (nI k)]) (rest := [.int (nI (np i v)), .ref q2]) ⟨hx, hb, hml, hown, hts⟩ (c_X6_productOf_16 l D u k (by omega) (by omega)) (va_cwS 2 hts gX6_triedProductOf_X6_productOf rfl rfl rfl (by decide +kernel) ⟨Nat.le_of_ble_eq_true rfl, Nat.le_of_ble_eq_true rfl⟩) ⟨z_fb0, fun U hU hW => ⟨rfl, trivial⟩⟩ rfl rfl hl.1 rfl (lv_room (Nat.le_of_ble_eq_true rfl)) dX6_triedProductOf_30 ⟨Nat.le_of_ble_eq_true rfl, Nat.le_of_ble_eq_true rfl⟩) (fun r30 e30 => ?_)
              subst e30
              have hn30 : np u k < 16 := np_16 _ (by omega) _ (by omega)
              refine z_ci (va_runS (As := [.int (nI (np i v)), .int (nI (np u k))]) (rest := [.ref q2]) ⟨hx, hb, hml, hown, hts⟩ (c_X6_sumOf l D (np i v) (np u k) (by omega) (by omega)) (va_cwS 2 hts gX6_triedProductOf_X6_sumOf rfl rfl rfl (by decide +kernel) ⟨Nat.le_of_ble_eq_true rfl, Nat.le_of_ble_eq_true rfl⟩) ⟨z_fb0, fun U hU hW => ⟨rfl, trivial⟩⟩ rfl rfl hl.1 rfl (lv_room (Nat.le_of_ble_eq_true rfl)) dX6_triedProductOf_33 ⟨Nat.le_of_ble_eq_true rfl, Nat.le_of_ble_eq_true rfl⟩) (fun r33 e33 => ?_)
              subst e33
              have hx33 : (np i v) ^^^ (np u k) < 256 := zx8 (by omega) (by omega)
              refine lv_iload_n hx hb dX6_triedProductOf_36 rfl (lv_at hl 3 rfl) ?_
              refine lv_iload hx hb dX6_triedProductOf_37 (lv_at hl 4 rfl) ?_
              refine z_ci (va_runS (As := [.int (nI i), .int (nI k)]) (rest := [.int (nI ((np i v) ^^^ (np u k))), .ref q2]) ⟨hx, hb, hml, hown, hts⟩ (c_X6_productOf_16 l D i k (by omega) (by omega)) (va_cwS 2 hts gX6_triedProductOf_X6_productOf rfl rfl rfl (by decide +kernel) ⟨Nat.le_of_ble_eq_true rfl, Nat.le_of_ble_eq_true rfl⟩) ⟨z_fb0, fun U hU hW => ⟨rfl, trivial⟩⟩ rfl rfl hl.1 rfl (lv_room (Nat.le_of_ble_eq_true rfl)) dX6_triedProductOf_39 ⟨Nat.le_of_ble_eq_true rfl, Nat.le_of_ble_eq_true rfl⟩) (fun r39 e39 => ?_)
              subst e39
              have hn39 : np i k < 16 := np_16 _ (by omega) _ (by omega)
              refine z_ci (va_runS (As := [.int (nI ((np i v) ^^^ (np u k))), .int (nI (np i k))]) (rest := [.ref q2]) ⟨hx, hb, hml, hown, hts⟩ (c_X6_sumOf l D ((np i v) ^^^ (np u k)) (np i k) (by omega) (by omega)) (va_cwS 2 hts gX6_triedProductOf_X6_sumOf rfl rfl rfl (by decide +kernel) ⟨Nat.le_of_ble_eq_true rfl, Nat.le_of_ble_eq_true rfl⟩) ⟨z_fb0, fun U hU hW => ⟨rfl, trivial⟩⟩ rfl rfl hl.1 rfl (lv_room (Nat.le_of_ble_eq_true rfl)) dX6_triedProductOf_42 ⟨Nat.le_of_ble_eq_true rfl, Nat.le_of_ble_eq_true rfl⟩) (fun r42 e42 => ?_)
              subst e42
              have hx42 : ((np i v) ^^^ (np u k)) ^^^ (np i k) < 256 := zx8 (by omega) (by omega)
              refine lv_iconst (v := nI 1) hx hb dX6_triedProductOf_45 zki_1 ?_
              have hx46 : (np i v ^^^ np u k) ^^^ np i k < 16 := zx4 (zx4 hn24 hn30) hn39
              refine zt (show nI 1 = bI true from rfl) ?_
              refine z_zast hx hb hK hP hD hS 0 0 rfl rfl (by omega) (by decide) dX6_triedProductOf_46 (fun H locs hP hD hS => ?_)
              have hP : va_P D vwCl [(q2, .inl (cA2, 17, .inl (aB (va_up (tpj u v i (tpi u v i) k) (((np i v) ^^^ (np u k)) ^^^ (np i k)) true))))] H := hP
              have hD : va_D A [(q2, .inl (cA2, 17, .inl (aB (va_up (tpj u v i (tpi u v i) k) (((np i v) ^^^ (np u k)) ^^^ (np i k)) true))))] := hD
              refine lv_iinc (v := (nI (k + 1))) (lv' := [(4, .int (nI (k + 1))), (0, .int (nI u)), (1, .int (nI v)), (2, .ref q2), (3, .int (nI i))]) hx hb dX6_triedProductOf_47 hl (k := 4) rfl (z_inc k 1) (by decide) rfl (fun ls hl => ?_)
              refine lv_goto (tgt := 15) hx hb dX6_triedProductOf_50 (by decide) ?_
              have hP : va_P D vwCl [(q2, .inl (cA2, 17, .inl (aB (tpj u v i (tpi u v i) (k + 1)))))] H := Eq.mp (congrArg (fun z9 => va_P D vwCl [(q2, .inl (cA2, 17, .inl (aB z9)))] H) ((show va_up (tpj u v i (tpi u v i) k) (((np i v) ^^^ (np u k)) ^^^ (np i k)) true = tpj u v i (tpi u v i) (k + 1) from rfl))) hP
              have hD : va_D A [(q2, .inl (cA2, 17, .inl (aB (tpj u v i (tpi u v i) (k + 1)))))] := Eq.mp (congrArg (fun z9 => va_D A [(q2, .inl (cA2, 17, .inl (aB z9)))]) ((show va_up (tpj u v i (tpi u v i) k) (((np i v) ^^^ (np u k)) ^^^ (np i k)) true = tpj u v i (tpi u v i) (k + 1) from rfl))) hD
              exact ih_15 (k + 1) (by omega) (by omega) H locs hP hD hS ls (lv_sub hl [1, 2, 3, 4, 0] rfl)
        have hP : va_P D vwCl [(q2, .inl (cA2, 17, .inl (aB (tpj u v i (tpi u v i) 0))))] H := Eq.mp (congrArg (fun z9 => va_P D vwCl [(q2, .inl (cA2, 17, .inl (aB z9)))] H) ((show tpi u v i = tpj u v i (tpi u v i) 0 from rfl))) hP
        have hD : va_D A [(q2, .inl (cA2, 17, .inl (aB (tpj u v i (tpi u v i) 0))))] := Eq.mp (congrArg (fun z9 => va_D A [(q2, .inl (cA2, 17, .inl (aB z9)))]) ((show tpi u v i = tpj u v i (tpi u v i) 0 from rfl))) hD
        exact cut_15 ((v - 0) + 1) 0 (by omega) (Nat.lt_succ_self _) H locs hP hD hS ls (lv_sub hl [1, 2, 3, 4, 0] rfl)
  have hP : va_P D vwCl [(q2, .inl (cA2, 17, .inl (aB (tpi u v 0))))] H := Eq.mp (congrArg (fun z9 => va_P D vwCl [(q2, .inl (cA2, 17, .inl (aB z9)))] H) ((show (fun _ => false) = tpi u v 0 from rfl))) hP
  have hD : va_D A [(q2, .inl (cA2, 17, .inl (aB (tpi u v 0))))] := Eq.mp (congrArg (fun z9 => va_D A [(q2, .inl (cA2, 17, .inl (aB z9)))]) ((show (fun _ => false) = tpi u v 0 from rfl))) hD
  exact cut_7 ((u - 0) + 1) 0 (by omega) (Nat.lt_succ_self _) H _ hP hD hS ls (lv_sub hl [2, 3, 1, 0] rfl)
abbrev rm_c_X6_triedSum_ok : Room := { frames := 2, cells := 1, slots := 256, locals := 48 }
abbrev q_c_X6_triedSum_ok (D : va_G) (sz : Nat) (mo : Nat) (ra : Nat) (ca : Nat) (ha : Nat) (ba : Nat) (wa : Nat) (kp : Nat) (hd : Nat) (th : Nat) (j : Nat) (k : Nat) : Array Value → State → Outcome → State → Prop := va_Qi (fun r (_ : Unit) => r = (nI (ts j k))) (fun (_ : Unit) t => va_P D vwCl [(mo, .inr (8, [.int (nI 0), .ref ra, .ref ca, .ref ha, .int (nI kp), .ref ba, .int (nI hd), .ref wa]))] t.heap ∧ va_K D vwCl [] t ∧ va_D (va_A [(mo, .inr (8, [.int (nI th), .ref ra, .ref ca, .ref ha, .int (nI kp), .ref ba, .int (nI hd), .ref wa]))] sz) [(mo, .inr (8, [.int (nI 0), .ref ra, .ref ca, .ref ha, .int (nI kp), .ref ba, .int (nI hd), .ref wa]))]) (va_A [(mo, .inr (8, [.int (nI th), .ref ra, .ref ca, .ref ha, .int (nI kp), .ref ba, .int (nI hd), .ref wa]))] sz)
set_option maxHeartbeats 4000000 in
set_option maxRecDepth 100000 in
theorem c_X6_triedSum_ok (l : Launch) (D : va_G) (sz : Nat) (mo : Nat) (ra : Nat) (ca : Nat) (ha : Nat) (ba : Nat) (wa : Nat) (kp : Nat) (hd : Nat) (th : Nat) (j : Nat) (k : Nat) (hj : j < 256) (hk : k < 256) : Met l yX6_triedSum wsX6_triedSum rm_c_X6_triedSum_ok (va_Pc [.ref mo, .int (nI j), .int (nI k)] (fun U => U.heap.size = sz ∧ va_P D vwCl [(mo, .inr (8, [.int (nI th), .ref ra, .ref ca, .ref ha, .int (nI kp), .ref ba, .int (nI hd), .ref wa]))] U.heap ∧ va_K D vwCl [] U ∧ va_D (fun _ => True) [(mo, .inr (8, [.int (nI th), .ref ra, .ref ca, .ref ha, .int (nI kp), .ref ba, .int (nI hd), .ref wa]))])) (q_c_X6_triedSum_ok D sz mo ra ca ha ba wa kp hd th j k) 1 256 (va_A [(mo, .inr (8, [.int (nI th), .ref ra, .ref ca, .ref ha, .int (nI kp), .ref ba, .int (nI hd), .ref wa]))] sz) := by
  refine Met.ofW (cc := cX6_triedSum) (maxL := 3) (ret := (some .int)) (by decide) rfl ?_
  intro p e s m args below meth c s₁ B hml hv
  obtain ⟨hargs, hsz, hP, hK, hD0⟩ := hv
  have hx := B.exec
  have hb := B.bytes
  have hr := B.returns
  have hts := atoms_spec (ws := wsX6_triedSum) B.pre
  have hown : s.vm.findClass RX6 = some m.cls := findClass_of_methodNamed B.named
  have hlocks := B.notSynchronized
  subst hsz
  have hD := hD0.self (sz := s.heap.size)
  generalize hAe : va_A [(mo, .inr (8, [.int (nI th), .ref ra, .ref ca, .ref ha, .int (nI kp), .ref ba, .int (nI hd), .ref wa]))] s.heap.size = A at hD ⊢
  have hA : ∀ q : Nat, s.heap.size ≤ q → A q := fun q h => by rw [← hAe]; exact Or.inr h
  have hS : va_S A s.heap s.heap [] := va_S.rf
  have hl := lv_entry ([.ref mo, .int (nI j), .int (nI k)]) (n := 3) (Nat.le_of_ble_eq_true rfl)
  refine W.eq (g2 := F0 m 0 (lg_sl ([.ref mo, .int (nI j), .int (nI k)]) ++ List.replicate (3 - (lg_sl ([.ref mo, .int (nI j), .int (nI k)])).length) Slot.unset).toArray []) (by rw [hargs]; exact lg_entry_eq _ _ _) ?_
  generalize (lg_sl ([.ref mo, .int (nI j), .int (nI k)]) ++ List.replicate (3 - (lg_sl ([.ref mo, .int (nI j), .int (nI k)])).length) Slot.unset).toArray = ls at hl ⊢
  have hl : lv_has ls 3 [(0, .ref mo), (1, .int (nI j)), (2, .int (nI k))] := hl
  refine lv_aload_n hx hb dX6_triedSum_0 rfl (lv_at hl 0 rfl) ?_
  refine lv_iconst (v := nI 0) hx hb dX6_triedSum_1 zki_0 ?_
  refine va_put (D := D) (ci := 8) (v := .int (nI 0)) (ty := .int) (C := RX6) (T := TX6) (N := 8) hx hb hts nX6_triedSum_inX6 tyX6 tyX6_ok nmX6 hown hK hP hD hS 0 rfl rfl 0 (by decide) (hts (.fieldLink RX6 26 "GamefieldModel" "thrown" "I") (by decide +kernel)) (fun _ h9 => h9) rfl (by decide +kernel) rfl rfl (Nat.le_of_ble_eq_true rfl) dX6_triedSum_2 (fun H locs hP hD hS => ?_)
  have hP : va_P D vwCl [(mo, .inr (8, [.int (nI 0), .ref ra, .ref ca, .ref ha, .int (nI kp), .ref ba, .int (nI hd), .ref wa]))] H := hP
  have hD : va_D A [(mo, .inr (8, [.int (nI 0), .ref ra, .ref ca, .ref ha, .int (nI kp), .ref ba, .int (nI hd), .ref wa]))] := hD
  refine lv_aload_n hx hb dX6_triedSum_5 rfl (lv_at hl 0 rfl) ?_
  refine lv_iload_n hx hb dX6_triedSum_6 rfl (lv_at hl 1 rfl) ?_
  refine lv_sipush (v := nI 256) hx hb dX6_triedSum_7 zks_256 ?_
  refine z_ci (va_runS (As := [.int (nI j), .int (nI 256)]) (rest := [.ref mo]) ⟨hx, hb, hml, hown, hts⟩ (c_X6_isNumber_ok l D j 256 (by omega) (by omega)) (va_cwS 2 hts gX6_triedSum_X6_isNumber rfl rfl rfl (by decide +kernel) ⟨Nat.le_of_ble_eq_true rfl, Nat.le_of_ble_eq_true rfl⟩) ⟨z_fb0, fun U hU hW => ⟨rfl, trivial⟩⟩ rfl rfl hl.1 rfl (lv_room (Nat.le_of_ble_eq_true rfl)) dX6_triedSum_10 ⟨Nat.le_of_ble_eq_true rfl, Nat.le_of_ble_eq_true rfl⟩) (fun r10 e10 => ?_)
  subst e10
  refine z_beq (tgt := 26) hx hb dX6_triedSum_13 (by decide) (fun c_13 => absurd c_13 (by decide)) (fun c_13 => ?_)
  refine lv_iload_n hx hb dX6_triedSum_16 rfl (lv_at hl 2 rfl) ?_
  refine lv_sipush (v := nI 256) hx hb dX6_triedSum_17 zks_256 ?_
  refine z_ci (va_runS (As := [.int (nI k), .int (nI 256)]) (rest := [.ref mo]) ⟨hx, hb, hml, hown, hts⟩ (c_X6_isNumber_ok l D k 256 (by omega) (by omega)) (va_cwS 2 hts gX6_triedSum_X6_isNumber rfl rfl rfl (by decide +kernel) ⟨Nat.le_of_ble_eq_true rfl, Nat.le_of_ble_eq_true rfl⟩) ⟨z_fb0, fun U hU hW => ⟨rfl, trivial⟩⟩ rfl rfl hl.1 rfl (lv_room (Nat.le_of_ble_eq_true rfl)) dX6_triedSum_20 ⟨Nat.le_of_ble_eq_true rfl, Nat.le_of_ble_eq_true rfl⟩) (fun r20 e20 => ?_)
  subst e20
  refine z_bne (tgt := 30) hx hb dX6_triedSum_23 (by decide) (fun c_23 => ?_) (fun c_23 => absurd c_23 (by decide))
  refine lv_iconst (v := nI 0) hx hb dX6_triedSum_30 zki_0 ?_
  refine lv_iconst (v := nI 1) hx hb dX6_triedSum_31 zki_1 ?_
  have hPc := hP.sub (ws' := [(mo, .inr (8, [.int (nI 0), .ref ra, .ref ca, .ref ha, .int (nI kp), .ref ba, .int (nI hd), .ref wa]))]) [0] rfl
  have hDc := hD.sub (ws' := [(mo, .inr (8, [.int (nI 0), .ref ra, .ref ca, .ref ha, .int (nI kp), .ref ba, .int (nI hd), .ref wa]))]) [0] (by decide) rfl
  have hKc := hK.sub (tys' := []) [] rfl
  have hFc := va_free (wc := [(mo, .inr (8, [.int (nI 0), .ref ra, .ref ca, .ref ha, .int (nI kp), .ref ba, .int (nI hd), .ref wa]))]) hD hS hA [0] rfl
  refine va_calli (va_runV (As := [.int (nI 0), .int (nI 1)]) (rest := []) ⟨hx, hb, hml, hown, hts⟩ (c_X6_fails_false l D H.size mo ra ca ha ba wa kp hd 1 (by omega) (by omega)) (cwV 2 hts gX6_triedSum_X6_fails rfl rfl rfl (by decide +kernel) ⟨Nat.le_of_ble_eq_true rfl, Nat.le_of_ble_eq_true rfl⟩) ⟨(z_fb2), va_recv hK hP (ci := 8) (q0 := 0) rfl rfl, fun U hU hW => ⟨rfl, by rw [hU], by rw [hU]; exact hPc, va_K.moved hW.alike hKc, hDc.weaken (fun _ _ _ _ => trivial)⟩⟩ rfl rfl hl.1 rfl (lv_room (Nat.le_of_ble_eq_true rfl)) dX6_triedSum_32 ⟨Nat.le_of_ble_eq_true rfl, Nat.le_of_ble_eq_true rfl⟩) hS (fun q _ h => hFc q h) hFc (fun r32 u32 t H locs ht hvm e32 hB hz1 hk1 hS => ?_)
  obtain ⟨hP1, hK1, hD1⟩ := hB
  rw [ht] at hP1
  obtain ⟨hP, hD⟩ := va_join (wr := []) (w1 := [(mo, .inr (8, [.int (nI 0), .ref ra, .ref ca, .ref ha, .int (nI kp), .ref ba, .int (nI hd), .ref wa]))]) hP hD [0] [] rfl rfl (by decide) (by decide) hk1 hFc hP1 hD1
  have hP : va_P D vwCl [(mo, .inr (8, [.int (nI 0), .ref ra, .ref ca, .ref ha, .int (nI kp), .ref ba, .int (nI hd), .ref wa]))] H := hP
  have hD : va_D A [(mo, .inr (8, [.int (nI 0), .ref ra, .ref ca, .ref ha, .int (nI kp), .ref ba, .int (nI hd), .ref wa]))] := hD
  refine W.widen (k := 0) (n := 0) (Nat.le_of_ble_eq_true rfl) (Nat.le_of_ble_eq_true rfl) ?_
  subst e32
  refine z_beq (tgt := 42) hx hb dX6_triedSum_35 (by decide) (fun c_35 => ?_) (fun c_35 => absurd c_35 (by decide))
  refine lv_iload_n hx hb dX6_triedSum_42 rfl (lv_at hl 1 rfl) ?_
  refine lv_iload_n hx hb dX6_triedSum_43 rfl (lv_at hl 2 rfl) ?_
  have hPc := hP.sub (ws' := []) [] rfl
  have hDc := hD.sub (ws' := []) [] (by decide) rfl
  have hKc := hK.sub (tys' := []) [] rfl
  have hFc := va_free (wc := []) hD hS hA [] rfl
  refine va_calli (va_runS (As := [.int (nI j), .int (nI k)]) (rest := []) ⟨hx, hb, hml, hown, hts⟩ (c_X6_triedSumOf l D H.size j k (by omega) (by omega)) (va_cwS 2 hts gX6_triedSum_X6_triedSumOf rfl rfl rfl (by decide +kernel) ⟨Nat.le_of_ble_eq_true rfl, Nat.le_of_ble_eq_true rfl⟩) ⟨(z_fb2), fun U hU hW => ⟨rfl, by rw [hU], by rw [hU]; exact hPc, va_K.moved hW.alike hKc, hDc.weaken (fun _ _ _ _ => trivial)⟩⟩ rfl rfl hl.1 rfl (lv_room (Nat.le_of_ble_eq_true rfl)) dX6_triedSum_44 ⟨Nat.le_of_ble_eq_true rfl, Nat.le_of_ble_eq_true rfl⟩) hS (fun q _ h => hFc q h) hFc (fun r44 u44 t H locs ht hvm e44 hB hz1 hk1 hS => ?_)
  obtain ⟨hP1, hK1, hD1⟩ := hB
  rw [ht] at hP1
  obtain ⟨hP, hD⟩ := va_join (wr := [(mo, .inr (8, [.int (nI 0), .ref ra, .ref ca, .ref ha, .int (nI kp), .ref ba, .int (nI hd), .ref wa]))]) (w1 := []) hP hD [] [0] rfl rfl (by decide) (by decide) hk1 hFc hP1 hD1
  have hP : va_P D vwCl [(mo, .inr (8, [.int (nI 0), .ref ra, .ref ca, .ref ha, .int (nI kp), .ref ba, .int (nI hd), .ref wa]))] H := hP
  have hD : va_D A [(mo, .inr (8, [.int (nI 0), .ref ra, .ref ca, .ref ha, .int (nI kp), .ref ba, .int (nI hd), .ref wa]))] := hD
  refine W.widen (k := 1) (n := 256) (Nat.le_of_ble_eq_true rfl) (Nat.le_of_ble_eq_true rfl) ?_
  subst e44
  have hn44 : ts j k < 257 := Nat.lt_succ_of_le (lo_le _ _)
  have hP9 := hP.sub (ws' := [(mo, .inr (8, [.int (nI 0), .ref ra, .ref ca, .ref ha, .int (nI kp), .ref ba, .int (nI hd), .ref wa]))]) [0] rfl
  have hD9 := hD.sub (ws' := [(mo, .inr (8, [.int (nI 0), .ref ra, .ref ca, .ref ha, .int (nI kp), .ref ba, .int (nI hd), .ref wa]))]) [0] (by decide) rfl
  have hK9 := hK.sub (tys' := []) [] rfl
  subst hAe
  refine W.widen (k := 1) (n := 256) (Nat.le_of_ble_eq_true rfl) (Nat.le_of_ble_eq_true rfl) ?_
  exact W.iret hx hb hr (fun t ht hW => ⟨⟨_, (), rfl, (rfl), by rw [ht]; exact hP9, va_K.moved hW.alike hK9, hD9⟩, hS.F ht⟩) hS.2.2 dX6_triedSum_47
abbrev rm_c_X6_triedSum_no : Room := { frames := 1, cells := 0, slots := 0, locals := 22 }
abbrev q_c_X6_triedSum_no (D : va_G) (sz : Nat) (mo : Nat) (ra : Nat) (ca : Nat) (ha : Nat) (ba : Nat) (wa : Nat) (kp : Nat) (hd : Nat) (th : Nat) (x0 : Int32) (x1 : Int32) : Array Value → State → Outcome → State → Prop := va_Qi (fun r (_ : Unit) => r = (nI 0)) (fun (_ : Unit) t => va_P D vwCl [(mo, .inr (8, [.int (nI 1), .ref ra, .ref ca, .ref ha, .int (nI kp), .ref ba, .int (nI hd), .ref wa]))] t.heap ∧ va_K D vwCl [] t ∧ va_D (va_A [(mo, .inr (8, [.int (nI th), .ref ra, .ref ca, .ref ha, .int (nI kp), .ref ba, .int (nI hd), .ref wa]))] sz) [(mo, .inr (8, [.int (nI 1), .ref ra, .ref ca, .ref ha, .int (nI kp), .ref ba, .int (nI hd), .ref wa]))]) (va_A [(mo, .inr (8, [.int (nI th), .ref ra, .ref ca, .ref ha, .int (nI kp), .ref ba, .int (nI hd), .ref wa]))] sz)
set_option maxHeartbeats 4000000 in
set_option maxRecDepth 100000 in
theorem c_X6_triedSum_no (l : Launch) (D : va_G) (sz : Nat) (mo : Nat) (ra : Nat) (ca : Nat) (ha : Nat) (ba : Nat) (wa : Nat) (kp : Nat) (hd : Nat) (th : Nat) (x0 : Int32) (x1 : Int32) (hno : (inN 256 x0 && inN 256 x1) = false) : Met l yX6_triedSum wsX6_triedSum rm_c_X6_triedSum_no (va_Pc [.ref mo, .int x0, .int x1] (fun U => U.heap.size = sz ∧ va_P D vwCl [(mo, .inr (8, [.int (nI th), .ref ra, .ref ca, .ref ha, .int (nI kp), .ref ba, .int (nI hd), .ref wa]))] U.heap ∧ va_K D vwCl [] U ∧ va_D (fun _ => True) [(mo, .inr (8, [.int (nI th), .ref ra, .ref ca, .ref ha, .int (nI kp), .ref ba, .int (nI hd), .ref wa]))])) (q_c_X6_triedSum_no D sz mo ra ca ha ba wa kp hd th x0 x1) 0 0 (va_A [(mo, .inr (8, [.int (nI th), .ref ra, .ref ca, .ref ha, .int (nI kp), .ref ba, .int (nI hd), .ref wa]))] sz) := by
  refine Met.ofW (cc := cX6_triedSum) (maxL := 3) (ret := (some .int)) (by decide) rfl ?_
  intro p e s m args below meth c s₁ B hml hv
  obtain ⟨hargs, hsz, hP, hK, hD0⟩ := hv
  have hx := B.exec
  have hb := B.bytes
  have hr := B.returns
  have hts := atoms_spec (ws := wsX6_triedSum) B.pre
  have hown : s.vm.findClass RX6 = some m.cls := findClass_of_methodNamed B.named
  have hlocks := B.notSynchronized
  subst hsz
  have hD := hD0.self (sz := s.heap.size)
  generalize hAe : va_A [(mo, .inr (8, [.int (nI th), .ref ra, .ref ca, .ref ha, .int (nI kp), .ref ba, .int (nI hd), .ref wa]))] s.heap.size = A at hD ⊢
  have hA : ∀ q : Nat, s.heap.size ≤ q → A q := fun q h => by rw [← hAe]; exact Or.inr h
  have hS : va_S A s.heap s.heap [] := va_S.rf
  have hl := lv_entry ([.ref mo, .int x0, .int x1]) (n := 3) (Nat.le_of_ble_eq_true rfl)
  refine W.eq (g2 := F0 m 0 (lg_sl ([.ref mo, .int x0, .int x1]) ++ List.replicate (3 - (lg_sl ([.ref mo, .int x0, .int x1])).length) Slot.unset).toArray []) (by rw [hargs]; exact lg_entry_eq _ _ _) ?_
  generalize (lg_sl ([.ref mo, .int x0, .int x1]) ++ List.replicate (3 - (lg_sl ([.ref mo, .int x0, .int x1])).length) Slot.unset).toArray = ls at hl ⊢
  have hl : lv_has ls 3 [(0, .ref mo), (1, .int x0), (2, .int x1)] := hl
  refine lv_aload_n hx hb dX6_triedSum_0 rfl (lv_at hl 0 rfl) ?_
  refine lv_iconst (v := nI 0) hx hb dX6_triedSum_1 zki_0 ?_
  refine va_put (D := D) (ci := 8) (v := .int (nI 0)) (ty := .int) (C := RX6) (T := TX6) (N := 8) hx hb hts nX6_triedSum_inX6 tyX6 tyX6_ok nmX6 hown hK hP hD hS 0 rfl rfl 0 (by decide) (hts (.fieldLink RX6 26 "GamefieldModel" "thrown" "I") (by decide +kernel)) (fun _ h9 => h9) rfl (by decide +kernel) rfl rfl (Nat.le_of_ble_eq_true rfl) dX6_triedSum_2 (fun H locs hP hD hS => ?_)
  have hP : va_P D vwCl [(mo, .inr (8, [.int (nI 0), .ref ra, .ref ca, .ref ha, .int (nI kp), .ref ba, .int (nI hd), .ref wa]))] H := hP
  have hD : va_D A [(mo, .inr (8, [.int (nI 0), .ref ra, .ref ca, .ref ha, .int (nI kp), .ref ba, .int (nI hd), .ref wa]))] := hD
  refine lv_aload_n hx hb dX6_triedSum_5 rfl (lv_at hl 0 rfl) ?_
  refine lv_iload_n hx hb dX6_triedSum_6 rfl (lv_at hl 1 rfl) ?_
  refine lv_sipush (v := nI 256) hx hb dX6_triedSum_7 zks_256 ?_
  refine z_ci (va_runS (As := [.int x0, .int (nI 256)]) (rest := [.ref mo]) ⟨hx, hb, hml, hown, hts⟩ (c_X6_isNumber l D x0 256 (by omega)) (va_cwS 2 hts gX6_triedSum_X6_isNumber rfl rfl rfl (by decide +kernel) ⟨Nat.le_of_ble_eq_true rfl, Nat.le_of_ble_eq_true rfl⟩) ⟨z_fb0, fun U hU hW => ⟨rfl, trivial⟩⟩ rfl rfl hl.1 rfl (lv_room (Nat.le_of_ble_eq_true rfl)) dX6_triedSum_10 ⟨Nat.le_of_ble_eq_true rfl, Nat.le_of_ble_eq_true rfl⟩) (fun r10 e10 => ?_)
  subst e10
  refine z_beq (tgt := 26) hx hb dX6_triedSum_13 (by decide) (fun c_13 => ?_) (fun c_13 => ?_)
  · refine lv_iconst (v := nI 1) hx hb dX6_triedSum_26 zki_1 ?_
    refine lv_goto (tgt := 31) hx hb dX6_triedSum_27 (by decide) ?_
    refine lv_iconst (v := nI 1) hx hb dX6_triedSum_31 zki_1 ?_
    have hPc := hP.sub (ws' := [(mo, .inr (8, [.int (nI 0), .ref ra, .ref ca, .ref ha, .int (nI kp), .ref ba, .int (nI hd), .ref wa]))]) [0] rfl
    have hDc := hD.sub (ws' := [(mo, .inr (8, [.int (nI 0), .ref ra, .ref ca, .ref ha, .int (nI kp), .ref ba, .int (nI hd), .ref wa]))]) [0] (by decide) rfl
    have hKc := hK.sub (tys' := []) [] rfl
    have hFc := va_free (wc := [(mo, .inr (8, [.int (nI 0), .ref ra, .ref ca, .ref ha, .int (nI kp), .ref ba, .int (nI hd), .ref wa]))]) hD hS hA [0] rfl
    refine va_calli (va_runV (As := [.int (nI 1), .int (nI 1)]) (rest := []) ⟨hx, hb, hml, hown, hts⟩ (c_X6_fails_true l D H.size mo ra ca ha ba wa kp hd 1 (by omega) (by omega)) (cwV 2 hts gX6_triedSum_X6_fails rfl rfl rfl (by decide +kernel) ⟨Nat.le_of_ble_eq_true rfl, Nat.le_of_ble_eq_true rfl⟩) ⟨(z_fb2), va_recv hK hP (ci := 8) (q0 := 0) rfl rfl, fun U hU hW => ⟨rfl, by rw [hU], by rw [hU]; exact hPc, va_K.moved hW.alike hKc, hDc.weaken (fun _ _ _ _ => trivial)⟩⟩ rfl rfl hl.1 rfl (lv_room (Nat.le_of_ble_eq_true rfl)) dX6_triedSum_32 ⟨Nat.le_of_ble_eq_true rfl, Nat.le_of_ble_eq_true rfl⟩) hS (fun q _ h => hFc q h) hFc (fun r32 u32 t H locs ht hvm e32 hB hz1 hk1 hS => ?_)
    obtain ⟨hP1, hK1, hD1⟩ := hB
    rw [ht] at hP1
    obtain ⟨hP, hD⟩ := va_join (wr := []) (w1 := [(mo, .inr (8, [.int (nI 1), .ref ra, .ref ca, .ref ha, .int (nI kp), .ref ba, .int (nI hd), .ref wa]))]) hP hD [0] [] rfl rfl (by decide) (by decide) hk1 hFc hP1 hD1
    have hP : va_P D vwCl [(mo, .inr (8, [.int (nI 1), .ref ra, .ref ca, .ref ha, .int (nI kp), .ref ba, .int (nI hd), .ref wa]))] H := hP
    have hD : va_D A [(mo, .inr (8, [.int (nI 1), .ref ra, .ref ca, .ref ha, .int (nI kp), .ref ba, .int (nI hd), .ref wa]))] := hD
    refine W.widen (k := 0) (n := 0) (Nat.le_of_ble_eq_true rfl) (Nat.le_of_ble_eq_true rfl) ?_
    subst e32
    refine z_beq (tgt := 42) hx hb dX6_triedSum_35 (by decide) (fun c_35 => absurd c_35 (by decide)) (fun c_35 => ?_)
    refine lv_iconst (v := nI 0) hx hb dX6_triedSum_38 zki_0 ?_
    refine lv_goto (tgt := 47) hx hb dX6_triedSum_39 (by decide) ?_
    have hP9 := hP.sub (ws' := [(mo, .inr (8, [.int (nI 1), .ref ra, .ref ca, .ref ha, .int (nI kp), .ref ba, .int (nI hd), .ref wa]))]) [0] rfl
    have hD9 := hD.sub (ws' := [(mo, .inr (8, [.int (nI 1), .ref ra, .ref ca, .ref ha, .int (nI kp), .ref ba, .int (nI hd), .ref wa]))]) [0] (by decide) rfl
    have hK9 := hK.sub (tys' := []) [] rfl
    subst hAe
    refine W.widen (k := 0) (n := 0) (Nat.le_of_ble_eq_true rfl) (Nat.le_of_ble_eq_true rfl) ?_
    exact W.iret hx hb hr (fun t ht hW => ⟨⟨_, (), rfl, (rfl), by rw [ht]; exact hP9, va_K.moved hW.alike hK9, hD9⟩, hS.F ht⟩) hS.2.2 dX6_triedSum_47
  · refine lv_iload_n hx hb dX6_triedSum_16 rfl (lv_at hl 2 rfl) ?_
    refine lv_sipush (v := nI 256) hx hb dX6_triedSum_17 zks_256 ?_
    refine z_ci (va_runS (As := [.int x1, .int (nI 256)]) (rest := [.ref mo]) ⟨hx, hb, hml, hown, hts⟩ (c_X6_isNumber l D x1 256 (by omega)) (va_cwS 2 hts gX6_triedSum_X6_isNumber rfl rfl rfl (by decide +kernel) ⟨Nat.le_of_ble_eq_true rfl, Nat.le_of_ble_eq_true rfl⟩) ⟨z_fb0, fun U hU hW => ⟨rfl, trivial⟩⟩ rfl rfl hl.1 rfl (lv_room (Nat.le_of_ble_eq_true rfl)) dX6_triedSum_20 ⟨Nat.le_of_ble_eq_true rfl, Nat.le_of_ble_eq_true rfl⟩) (fun r20 e20 => ?_)
    subst e20
    refine z_bne (tgt := 30) hx hb dX6_triedSum_23 (by decide) (fun c_23 => absurd hno (by simp [c_13, c_23])) (fun c_23 => ?_)
    refine lv_iconst (v := nI 1) hx hb dX6_triedSum_26 zki_1 ?_
    refine lv_goto (tgt := 31) hx hb dX6_triedSum_27 (by decide) ?_
    refine lv_iconst (v := nI 1) hx hb dX6_triedSum_31 zki_1 ?_
    have hPc := hP.sub (ws' := [(mo, .inr (8, [.int (nI 0), .ref ra, .ref ca, .ref ha, .int (nI kp), .ref ba, .int (nI hd), .ref wa]))]) [0] rfl
    have hDc := hD.sub (ws' := [(mo, .inr (8, [.int (nI 0), .ref ra, .ref ca, .ref ha, .int (nI kp), .ref ba, .int (nI hd), .ref wa]))]) [0] (by decide) rfl
    have hKc := hK.sub (tys' := []) [] rfl
    have hFc := va_free (wc := [(mo, .inr (8, [.int (nI 0), .ref ra, .ref ca, .ref ha, .int (nI kp), .ref ba, .int (nI hd), .ref wa]))]) hD hS hA [0] rfl
    refine va_calli (va_runV (As := [.int (nI 1), .int (nI 1)]) (rest := []) ⟨hx, hb, hml, hown, hts⟩ (c_X6_fails_true l D H.size mo ra ca ha ba wa kp hd 1 (by omega) (by omega)) (cwV 2 hts gX6_triedSum_X6_fails rfl rfl rfl (by decide +kernel) ⟨Nat.le_of_ble_eq_true rfl, Nat.le_of_ble_eq_true rfl⟩) ⟨(z_fb2), va_recv hK hP (ci := 8) (q0 := 0) rfl rfl, fun U hU hW => ⟨rfl, by rw [hU], by rw [hU]; exact hPc, va_K.moved hW.alike hKc, hDc.weaken (fun _ _ _ _ => trivial)⟩⟩ rfl rfl hl.1 rfl (lv_room (Nat.le_of_ble_eq_true rfl)) dX6_triedSum_32 ⟨Nat.le_of_ble_eq_true rfl, Nat.le_of_ble_eq_true rfl⟩) hS (fun q _ h => hFc q h) hFc (fun r32 u32 t H locs ht hvm e32 hB hz1 hk1 hS => ?_)
    obtain ⟨hP1, hK1, hD1⟩ := hB
    rw [ht] at hP1
    obtain ⟨hP, hD⟩ := va_join (wr := []) (w1 := [(mo, .inr (8, [.int (nI 1), .ref ra, .ref ca, .ref ha, .int (nI kp), .ref ba, .int (nI hd), .ref wa]))]) hP hD [0] [] rfl rfl (by decide) (by decide) hk1 hFc hP1 hD1
    have hP : va_P D vwCl [(mo, .inr (8, [.int (nI 1), .ref ra, .ref ca, .ref ha, .int (nI kp), .ref ba, .int (nI hd), .ref wa]))] H := hP
    have hD : va_D A [(mo, .inr (8, [.int (nI 1), .ref ra, .ref ca, .ref ha, .int (nI kp), .ref ba, .int (nI hd), .ref wa]))] := hD
    refine W.widen (k := 0) (n := 0) (Nat.le_of_ble_eq_true rfl) (Nat.le_of_ble_eq_true rfl) ?_
    subst e32
    refine z_beq (tgt := 42) hx hb dX6_triedSum_35 (by decide) (fun c_35 => absurd c_35 (by decide)) (fun c_35 => ?_)
    refine lv_iconst (v := nI 0) hx hb dX6_triedSum_38 zki_0 ?_
    refine lv_goto (tgt := 47) hx hb dX6_triedSum_39 (by decide) ?_
    have hP9 := hP.sub (ws' := [(mo, .inr (8, [.int (nI 1), .ref ra, .ref ca, .ref ha, .int (nI kp), .ref ba, .int (nI hd), .ref wa]))]) [0] rfl
    have hD9 := hD.sub (ws' := [(mo, .inr (8, [.int (nI 1), .ref ra, .ref ca, .ref ha, .int (nI kp), .ref ba, .int (nI hd), .ref wa]))]) [0] (by decide) rfl
    have hK9 := hK.sub (tys' := []) [] rfl
    subst hAe
    refine W.widen (k := 0) (n := 0) (Nat.le_of_ble_eq_true rfl) (Nat.le_of_ble_eq_true rfl) ?_
    exact W.iret hx hb hr (fun t ht hW => ⟨⟨_, (), rfl, (rfl), by rw [ht]; exact hP9, va_K.moved hW.alike hK9, hD9⟩, hS.F ht⟩) hS.2.2 dX6_triedSum_47
abbrev rm_c_X6_triedProduct_ok : Room := { frames := 4, cells := 1, slots := 17, locals := 111 }
abbrev q_c_X6_triedProduct_ok (D : va_G) (sz : Nat) (mo : Nat) (ra : Nat) (ca : Nat) (ha : Nat) (ba : Nat) (wa : Nat) (kp : Nat) (hd : Nat) (th : Nat) (j : Nat) (k : Nat) : Array Value → State → Outcome → State → Prop := va_Qi (fun r (_ : Unit) => r = (nI (tp j k))) (fun (_ : Unit) t => va_P D vwCl [(mo, .inr (8, [.int (nI 0), .ref ra, .ref ca, .ref ha, .int (nI kp), .ref ba, .int (nI hd), .ref wa]))] t.heap ∧ va_K D vwCl [] t ∧ va_D (va_A [(mo, .inr (8, [.int (nI th), .ref ra, .ref ca, .ref ha, .int (nI kp), .ref ba, .int (nI hd), .ref wa]))] sz) [(mo, .inr (8, [.int (nI 0), .ref ra, .ref ca, .ref ha, .int (nI kp), .ref ba, .int (nI hd), .ref wa]))]) (va_A [(mo, .inr (8, [.int (nI th), .ref ra, .ref ca, .ref ha, .int (nI kp), .ref ba, .int (nI hd), .ref wa]))] sz)
set_option maxHeartbeats 4000000 in
set_option maxRecDepth 100000 in
theorem c_X6_triedProduct_ok (l : Launch) (D : va_G) (sz : Nat) (mo : Nat) (ra : Nat) (ca : Nat) (ha : Nat) (ba : Nat) (wa : Nat) (kp : Nat) (hd : Nat) (th : Nat) (j : Nat) (k : Nat) (hj : j < 16) (hk : k < 16) : Met l yX6_triedProduct wsX6_triedProduct rm_c_X6_triedProduct_ok (va_Pc [.ref mo, .int (nI j), .int (nI k)] (fun U => U.heap.size = sz ∧ va_P D vwCl [(mo, .inr (8, [.int (nI th), .ref ra, .ref ca, .ref ha, .int (nI kp), .ref ba, .int (nI hd), .ref wa]))] U.heap ∧ va_K D vwCl [] U ∧ va_D (fun _ => True) [(mo, .inr (8, [.int (nI th), .ref ra, .ref ca, .ref ha, .int (nI kp), .ref ba, .int (nI hd), .ref wa]))])) (q_c_X6_triedProduct_ok D sz mo ra ca ha ba wa kp hd th j k) 1 17 (va_A [(mo, .inr (8, [.int (nI th), .ref ra, .ref ca, .ref ha, .int (nI kp), .ref ba, .int (nI hd), .ref wa]))] sz) := by
  refine Met.ofW (cc := cX6_triedProduct) (maxL := 3) (ret := (some .int)) (by decide) rfl ?_
  intro p e s m args below meth c s₁ B hml hv
  obtain ⟨hargs, hsz, hP, hK, hD0⟩ := hv
  have hx := B.exec
  have hb := B.bytes
  have hr := B.returns
  have hts := atoms_spec (ws := wsX6_triedProduct) B.pre
  have hown : s.vm.findClass RX6 = some m.cls := findClass_of_methodNamed B.named
  have hlocks := B.notSynchronized
  subst hsz
  have hD := hD0.self (sz := s.heap.size)
  generalize hAe : va_A [(mo, .inr (8, [.int (nI th), .ref ra, .ref ca, .ref ha, .int (nI kp), .ref ba, .int (nI hd), .ref wa]))] s.heap.size = A at hD ⊢
  have hA : ∀ q : Nat, s.heap.size ≤ q → A q := fun q h => by rw [← hAe]; exact Or.inr h
  have hS : va_S A s.heap s.heap [] := va_S.rf
  have hl := lv_entry ([.ref mo, .int (nI j), .int (nI k)]) (n := 3) (Nat.le_of_ble_eq_true rfl)
  refine W.eq (g2 := F0 m 0 (lg_sl ([.ref mo, .int (nI j), .int (nI k)]) ++ List.replicate (3 - (lg_sl ([.ref mo, .int (nI j), .int (nI k)])).length) Slot.unset).toArray []) (by rw [hargs]; exact lg_entry_eq _ _ _) ?_
  generalize (lg_sl ([.ref mo, .int (nI j), .int (nI k)]) ++ List.replicate (3 - (lg_sl ([.ref mo, .int (nI j), .int (nI k)])).length) Slot.unset).toArray = ls at hl ⊢
  have hl : lv_has ls 3 [(0, .ref mo), (1, .int (nI j)), (2, .int (nI k))] := hl
  refine lv_aload_n hx hb dX6_triedProduct_0 rfl (lv_at hl 0 rfl) ?_
  refine lv_iconst (v := nI 0) hx hb dX6_triedProduct_1 zki_0 ?_
  refine va_put (D := D) (ci := 8) (v := .int (nI 0)) (ty := .int) (C := RX6) (T := TX6) (N := 8) hx hb hts nX6_triedProduct_inX6 tyX6 tyX6_ok nmX6 hown hK hP hD hS 0 rfl rfl 0 (by decide) (hts (.fieldLink RX6 26 "GamefieldModel" "thrown" "I") (by decide +kernel)) (fun _ h9 => h9) rfl (by decide +kernel) rfl rfl (Nat.le_of_ble_eq_true rfl) dX6_triedProduct_2 (fun H locs hP hD hS => ?_)
  have hP : va_P D vwCl [(mo, .inr (8, [.int (nI 0), .ref ra, .ref ca, .ref ha, .int (nI kp), .ref ba, .int (nI hd), .ref wa]))] H := hP
  have hD : va_D A [(mo, .inr (8, [.int (nI 0), .ref ra, .ref ca, .ref ha, .int (nI kp), .ref ba, .int (nI hd), .ref wa]))] := hD
  refine lv_aload_n hx hb dX6_triedProduct_5 rfl (lv_at hl 0 rfl) ?_
  refine lv_iload_n hx hb dX6_triedProduct_6 rfl (lv_at hl 1 rfl) ?_
  refine lv_bipush (v := nI 16) hx hb dX6_triedProduct_7 zkb_16 ?_
  refine z_ci (va_runS (As := [.int (nI j), .int (nI 16)]) (rest := [.ref mo]) ⟨hx, hb, hml, hown, hts⟩ (c_X6_isNumber_ok l D j 16 (by omega) (by omega)) (va_cwS 2 hts gX6_triedProduct_X6_isNumber rfl rfl rfl (by decide +kernel) ⟨Nat.le_of_ble_eq_true rfl, Nat.le_of_ble_eq_true rfl⟩) ⟨z_fb0, fun U hU hW => ⟨rfl, trivial⟩⟩ rfl rfl hl.1 rfl (lv_room (Nat.le_of_ble_eq_true rfl)) dX6_triedProduct_9 ⟨Nat.le_of_ble_eq_true rfl, Nat.le_of_ble_eq_true rfl⟩) (fun r9 e9 => ?_)
  subst e9
  refine z_beq (tgt := 24) hx hb dX6_triedProduct_12 (by decide) (fun c_12 => absurd c_12 (by decide)) (fun c_12 => ?_)
  refine lv_iload_n hx hb dX6_triedProduct_15 rfl (lv_at hl 2 rfl) ?_
  refine lv_bipush (v := nI 16) hx hb dX6_triedProduct_16 zkb_16 ?_
  refine z_ci (va_runS (As := [.int (nI k), .int (nI 16)]) (rest := [.ref mo]) ⟨hx, hb, hml, hown, hts⟩ (c_X6_isNumber_ok l D k 16 (by omega) (by omega)) (va_cwS 2 hts gX6_triedProduct_X6_isNumber rfl rfl rfl (by decide +kernel) ⟨Nat.le_of_ble_eq_true rfl, Nat.le_of_ble_eq_true rfl⟩) ⟨z_fb0, fun U hU hW => ⟨rfl, trivial⟩⟩ rfl rfl hl.1 rfl (lv_room (Nat.le_of_ble_eq_true rfl)) dX6_triedProduct_18 ⟨Nat.le_of_ble_eq_true rfl, Nat.le_of_ble_eq_true rfl⟩) (fun r18 e18 => ?_)
  subst e18
  refine z_bne (tgt := 28) hx hb dX6_triedProduct_21 (by decide) (fun c_21 => ?_) (fun c_21 => absurd c_21 (by decide))
  refine lv_iconst (v := nI 0) hx hb dX6_triedProduct_28 zki_0 ?_
  refine lv_iconst (v := nI 1) hx hb dX6_triedProduct_29 zki_1 ?_
  have hPc := hP.sub (ws' := [(mo, .inr (8, [.int (nI 0), .ref ra, .ref ca, .ref ha, .int (nI kp), .ref ba, .int (nI hd), .ref wa]))]) [0] rfl
  have hDc := hD.sub (ws' := [(mo, .inr (8, [.int (nI 0), .ref ra, .ref ca, .ref ha, .int (nI kp), .ref ba, .int (nI hd), .ref wa]))]) [0] (by decide) rfl
  have hKc := hK.sub (tys' := []) [] rfl
  have hFc := va_free (wc := [(mo, .inr (8, [.int (nI 0), .ref ra, .ref ca, .ref ha, .int (nI kp), .ref ba, .int (nI hd), .ref wa]))]) hD hS hA [0] rfl
  refine va_calli (va_runV (As := [.int (nI 0), .int (nI 1)]) (rest := []) ⟨hx, hb, hml, hown, hts⟩ (c_X6_fails_false l D H.size mo ra ca ha ba wa kp hd 1 (by omega) (by omega)) (cwV 2 hts gX6_triedProduct_X6_fails rfl rfl rfl (by decide +kernel) ⟨Nat.le_of_ble_eq_true rfl, Nat.le_of_ble_eq_true rfl⟩) ⟨(z_fb2), va_recv hK hP (ci := 8) (q0 := 0) rfl rfl, fun U hU hW => ⟨rfl, by rw [hU], by rw [hU]; exact hPc, va_K.moved hW.alike hKc, hDc.weaken (fun _ _ _ _ => trivial)⟩⟩ rfl rfl hl.1 rfl (lv_room (Nat.le_of_ble_eq_true rfl)) dX6_triedProduct_30 ⟨Nat.le_of_ble_eq_true rfl, Nat.le_of_ble_eq_true rfl⟩) hS (fun q _ h => hFc q h) hFc (fun r30 u30 t H locs ht hvm e30 hB hz1 hk1 hS => ?_)
  obtain ⟨hP1, hK1, hD1⟩ := hB
  rw [ht] at hP1
  obtain ⟨hP, hD⟩ := va_join (wr := []) (w1 := [(mo, .inr (8, [.int (nI 0), .ref ra, .ref ca, .ref ha, .int (nI kp), .ref ba, .int (nI hd), .ref wa]))]) hP hD [0] [] rfl rfl (by decide) (by decide) hk1 hFc hP1 hD1
  have hP : va_P D vwCl [(mo, .inr (8, [.int (nI 0), .ref ra, .ref ca, .ref ha, .int (nI kp), .ref ba, .int (nI hd), .ref wa]))] H := hP
  have hD : va_D A [(mo, .inr (8, [.int (nI 0), .ref ra, .ref ca, .ref ha, .int (nI kp), .ref ba, .int (nI hd), .ref wa]))] := hD
  refine W.widen (k := 0) (n := 0) (Nat.le_of_ble_eq_true rfl) (Nat.le_of_ble_eq_true rfl) ?_
  subst e30
  refine z_beq (tgt := 40) hx hb dX6_triedProduct_33 (by decide) (fun c_33 => ?_) (fun c_33 => absurd c_33 (by decide))
  refine lv_iload_n hx hb dX6_triedProduct_40 rfl (lv_at hl 1 rfl) ?_
  refine lv_iload_n hx hb dX6_triedProduct_41 rfl (lv_at hl 2 rfl) ?_
  have hPc := hP.sub (ws' := []) [] rfl
  have hDc := hD.sub (ws' := []) [] (by decide) rfl
  have hKc := hK.sub (tys' := []) [] rfl
  have hFc := va_free (wc := []) hD hS hA [] rfl
  refine va_calli (va_runS (As := [.int (nI j), .int (nI k)]) (rest := []) ⟨hx, hb, hml, hown, hts⟩ (c_X6_triedProductOf l D H.size j k (by omega) (by omega)) (va_cwS 2 hts gX6_triedProduct_X6_triedProductOf rfl rfl rfl (by decide +kernel) ⟨Nat.le_of_ble_eq_true rfl, Nat.le_of_ble_eq_true rfl⟩) ⟨(z_fb2), fun U hU hW => ⟨rfl, by rw [hU], by rw [hU]; exact hPc, va_K.moved hW.alike hKc, hDc.weaken (fun _ _ _ _ => trivial)⟩⟩ rfl rfl hl.1 rfl (lv_room (Nat.le_of_ble_eq_true rfl)) dX6_triedProduct_42 ⟨Nat.le_of_ble_eq_true rfl, Nat.le_of_ble_eq_true rfl⟩) hS (fun q _ h => hFc q h) hFc (fun r42 u42 t H locs ht hvm e42 hB hz1 hk1 hS => ?_)
  obtain ⟨hP1, hK1, hD1⟩ := hB
  rw [ht] at hP1
  obtain ⟨hP, hD⟩ := va_join (wr := [(mo, .inr (8, [.int (nI 0), .ref ra, .ref ca, .ref ha, .int (nI kp), .ref ba, .int (nI hd), .ref wa]))]) (w1 := []) hP hD [] [0] rfl rfl (by decide) (by decide) hk1 hFc hP1 hD1
  have hP : va_P D vwCl [(mo, .inr (8, [.int (nI 0), .ref ra, .ref ca, .ref ha, .int (nI kp), .ref ba, .int (nI hd), .ref wa]))] H := hP
  have hD : va_D A [(mo, .inr (8, [.int (nI 0), .ref ra, .ref ca, .ref ha, .int (nI kp), .ref ba, .int (nI hd), .ref wa]))] := hD
  refine W.widen (k := 1) (n := 17) (Nat.le_of_ble_eq_true rfl) (Nat.le_of_ble_eq_true rfl) ?_
  subst e42
  have hn42 : tp j k < 257 := Nat.lt_succ_of_le (lo_le _ _)
  have hP9 := hP.sub (ws' := [(mo, .inr (8, [.int (nI 0), .ref ra, .ref ca, .ref ha, .int (nI kp), .ref ba, .int (nI hd), .ref wa]))]) [0] rfl
  have hD9 := hD.sub (ws' := [(mo, .inr (8, [.int (nI 0), .ref ra, .ref ca, .ref ha, .int (nI kp), .ref ba, .int (nI hd), .ref wa]))]) [0] (by decide) rfl
  have hK9 := hK.sub (tys' := []) [] rfl
  subst hAe
  refine W.widen (k := 1) (n := 17) (Nat.le_of_ble_eq_true rfl) (Nat.le_of_ble_eq_true rfl) ?_
  exact W.iret hx hb hr (fun t ht hW => ⟨⟨_, (), rfl, (rfl), by rw [ht]; exact hP9, va_K.moved hW.alike hK9, hD9⟩, hS.F ht⟩) hS.2.2 dX6_triedProduct_45
abbrev rm_c_X6_triedProduct_no : Room := { frames := 1, cells := 0, slots := 0, locals := 22 }
abbrev q_c_X6_triedProduct_no (D : va_G) (sz : Nat) (mo : Nat) (ra : Nat) (ca : Nat) (ha : Nat) (ba : Nat) (wa : Nat) (kp : Nat) (hd : Nat) (th : Nat) (x0 : Int32) (x1 : Int32) : Array Value → State → Outcome → State → Prop := va_Qi (fun r (_ : Unit) => r = (nI 0)) (fun (_ : Unit) t => va_P D vwCl [(mo, .inr (8, [.int (nI 1), .ref ra, .ref ca, .ref ha, .int (nI kp), .ref ba, .int (nI hd), .ref wa]))] t.heap ∧ va_K D vwCl [] t ∧ va_D (va_A [(mo, .inr (8, [.int (nI th), .ref ra, .ref ca, .ref ha, .int (nI kp), .ref ba, .int (nI hd), .ref wa]))] sz) [(mo, .inr (8, [.int (nI 1), .ref ra, .ref ca, .ref ha, .int (nI kp), .ref ba, .int (nI hd), .ref wa]))]) (va_A [(mo, .inr (8, [.int (nI th), .ref ra, .ref ca, .ref ha, .int (nI kp), .ref ba, .int (nI hd), .ref wa]))] sz)
set_option maxHeartbeats 4000000 in
set_option maxRecDepth 100000 in
theorem c_X6_triedProduct_no (l : Launch) (D : va_G) (sz : Nat) (mo : Nat) (ra : Nat) (ca : Nat) (ha : Nat) (ba : Nat) (wa : Nat) (kp : Nat) (hd : Nat) (th : Nat) (x0 : Int32) (x1 : Int32) (hno : (inN 16 x0 && inN 16 x1) = false) : Met l yX6_triedProduct wsX6_triedProduct rm_c_X6_triedProduct_no (va_Pc [.ref mo, .int x0, .int x1] (fun U => U.heap.size = sz ∧ va_P D vwCl [(mo, .inr (8, [.int (nI th), .ref ra, .ref ca, .ref ha, .int (nI kp), .ref ba, .int (nI hd), .ref wa]))] U.heap ∧ va_K D vwCl [] U ∧ va_D (fun _ => True) [(mo, .inr (8, [.int (nI th), .ref ra, .ref ca, .ref ha, .int (nI kp), .ref ba, .int (nI hd), .ref wa]))])) (q_c_X6_triedProduct_no D sz mo ra ca ha ba wa kp hd th x0 x1) 0 0 (va_A [(mo, .inr (8, [.int (nI th), .ref ra, .ref ca, .ref ha, .int (nI kp), .ref ba, .int (nI hd), .ref wa]))] sz) := by
  refine Met.ofW (cc := cX6_triedProduct) (maxL := 3) (ret := (some .int)) (by decide) rfl ?_
  intro p e s m args below meth c s₁ B hml hv
  obtain ⟨hargs, hsz, hP, hK, hD0⟩ := hv
  have hx := B.exec
  have hb := B.bytes
  have hr := B.returns
  have hts := atoms_spec (ws := wsX6_triedProduct) B.pre
  have hown : s.vm.findClass RX6 = some m.cls := findClass_of_methodNamed B.named
  have hlocks := B.notSynchronized
  subst hsz
  have hD := hD0.self (sz := s.heap.size)
  generalize hAe : va_A [(mo, .inr (8, [.int (nI th), .ref ra, .ref ca, .ref ha, .int (nI kp), .ref ba, .int (nI hd), .ref wa]))] s.heap.size = A at hD ⊢
  have hA : ∀ q : Nat, s.heap.size ≤ q → A q := fun q h => by rw [← hAe]; exact Or.inr h
  have hS : va_S A s.heap s.heap [] := va_S.rf
  have hl := lv_entry ([.ref mo, .int x0, .int x1]) (n := 3) (Nat.le_of_ble_eq_true rfl)
  refine W.eq (g2 := F0 m 0 (lg_sl ([.ref mo, .int x0, .int x1]) ++ List.replicate (3 - (lg_sl ([.ref mo, .int x0, .int x1])).length) Slot.unset).toArray []) (by rw [hargs]; exact lg_entry_eq _ _ _) ?_
  generalize (lg_sl ([.ref mo, .int x0, .int x1]) ++ List.replicate (3 - (lg_sl ([.ref mo, .int x0, .int x1])).length) Slot.unset).toArray = ls at hl ⊢
  have hl : lv_has ls 3 [(0, .ref mo), (1, .int x0), (2, .int x1)] := hl
  refine lv_aload_n hx hb dX6_triedProduct_0 rfl (lv_at hl 0 rfl) ?_
  refine lv_iconst (v := nI 0) hx hb dX6_triedProduct_1 zki_0 ?_
  refine va_put (D := D) (ci := 8) (v := .int (nI 0)) (ty := .int) (C := RX6) (T := TX6) (N := 8) hx hb hts nX6_triedProduct_inX6 tyX6 tyX6_ok nmX6 hown hK hP hD hS 0 rfl rfl 0 (by decide) (hts (.fieldLink RX6 26 "GamefieldModel" "thrown" "I") (by decide +kernel)) (fun _ h9 => h9) rfl (by decide +kernel) rfl rfl (Nat.le_of_ble_eq_true rfl) dX6_triedProduct_2 (fun H locs hP hD hS => ?_)
  have hP : va_P D vwCl [(mo, .inr (8, [.int (nI 0), .ref ra, .ref ca, .ref ha, .int (nI kp), .ref ba, .int (nI hd), .ref wa]))] H := hP
  have hD : va_D A [(mo, .inr (8, [.int (nI 0), .ref ra, .ref ca, .ref ha, .int (nI kp), .ref ba, .int (nI hd), .ref wa]))] := hD
  refine lv_aload_n hx hb dX6_triedProduct_5 rfl (lv_at hl 0 rfl) ?_
  refine lv_iload_n hx hb dX6_triedProduct_6 rfl (lv_at hl 1 rfl) ?_
  refine lv_bipush (v := nI 16) hx hb dX6_triedProduct_7 zkb_16 ?_
  refine z_ci (va_runS (As := [.int x0, .int (nI 16)]) (rest := [.ref mo]) ⟨hx, hb, hml, hown, hts⟩ (c_X6_isNumber l D x0 16 (by omega)) (va_cwS 2 hts gX6_triedProduct_X6_isNumber rfl rfl rfl (by decide +kernel) ⟨Nat.le_of_ble_eq_true rfl, Nat.le_of_ble_eq_true rfl⟩) ⟨z_fb0, fun U hU hW => ⟨rfl, trivial⟩⟩ rfl rfl hl.1 rfl (lv_room (Nat.le_of_ble_eq_true rfl)) dX6_triedProduct_9 ⟨Nat.le_of_ble_eq_true rfl, Nat.le_of_ble_eq_true rfl⟩) (fun r9 e9 => ?_)
  subst e9
  refine z_beq (tgt := 24) hx hb dX6_triedProduct_12 (by decide) (fun c_12 => ?_) (fun c_12 => ?_)
  · refine lv_iconst (v := nI 1) hx hb dX6_triedProduct_24 zki_1 ?_
    refine lv_goto (tgt := 29) hx hb dX6_triedProduct_25 (by decide) ?_
    refine lv_iconst (v := nI 1) hx hb dX6_triedProduct_29 zki_1 ?_
    have hPc := hP.sub (ws' := [(mo, .inr (8, [.int (nI 0), .ref ra, .ref ca, .ref ha, .int (nI kp), .ref ba, .int (nI hd), .ref wa]))]) [0] rfl
    have hDc := hD.sub (ws' := [(mo, .inr (8, [.int (nI 0), .ref ra, .ref ca, .ref ha, .int (nI kp), .ref ba, .int (nI hd), .ref wa]))]) [0] (by decide) rfl
    have hKc := hK.sub (tys' := []) [] rfl
    have hFc := va_free (wc := [(mo, .inr (8, [.int (nI 0), .ref ra, .ref ca, .ref ha, .int (nI kp), .ref ba, .int (nI hd), .ref wa]))]) hD hS hA [0] rfl
    refine va_calli (va_runV (As := [.int (nI 1), .int (nI 1)]) (rest := []) ⟨hx, hb, hml, hown, hts⟩ (c_X6_fails_true l D H.size mo ra ca ha ba wa kp hd 1 (by omega) (by omega)) (cwV 2 hts gX6_triedProduct_X6_fails rfl rfl rfl (by decide +kernel) ⟨Nat.le_of_ble_eq_true rfl, Nat.le_of_ble_eq_true rfl⟩) ⟨(z_fb2), va_recv hK hP (ci := 8) (q0 := 0) rfl rfl, fun U hU hW => ⟨rfl, by rw [hU], by rw [hU]; exact hPc, va_K.moved hW.alike hKc, hDc.weaken (fun _ _ _ _ => trivial)⟩⟩ rfl rfl hl.1 rfl (lv_room (Nat.le_of_ble_eq_true rfl)) dX6_triedProduct_30 ⟨Nat.le_of_ble_eq_true rfl, Nat.le_of_ble_eq_true rfl⟩) hS (fun q _ h => hFc q h) hFc (fun r30 u30 t H locs ht hvm e30 hB hz1 hk1 hS => ?_)
    obtain ⟨hP1, hK1, hD1⟩ := hB
    rw [ht] at hP1
    obtain ⟨hP, hD⟩ := va_join (wr := []) (w1 := [(mo, .inr (8, [.int (nI 1), .ref ra, .ref ca, .ref ha, .int (nI kp), .ref ba, .int (nI hd), .ref wa]))]) hP hD [0] [] rfl rfl (by decide) (by decide) hk1 hFc hP1 hD1
    have hP : va_P D vwCl [(mo, .inr (8, [.int (nI 1), .ref ra, .ref ca, .ref ha, .int (nI kp), .ref ba, .int (nI hd), .ref wa]))] H := hP
    have hD : va_D A [(mo, .inr (8, [.int (nI 1), .ref ra, .ref ca, .ref ha, .int (nI kp), .ref ba, .int (nI hd), .ref wa]))] := hD
    refine W.widen (k := 0) (n := 0) (Nat.le_of_ble_eq_true rfl) (Nat.le_of_ble_eq_true rfl) ?_
    subst e30
    refine z_beq (tgt := 40) hx hb dX6_triedProduct_33 (by decide) (fun c_33 => absurd c_33 (by decide)) (fun c_33 => ?_)
    refine lv_iconst (v := nI 0) hx hb dX6_triedProduct_36 zki_0 ?_
    refine lv_goto (tgt := 45) hx hb dX6_triedProduct_37 (by decide) ?_
    have hP9 := hP.sub (ws' := [(mo, .inr (8, [.int (nI 1), .ref ra, .ref ca, .ref ha, .int (nI kp), .ref ba, .int (nI hd), .ref wa]))]) [0] rfl
    have hD9 := hD.sub (ws' := [(mo, .inr (8, [.int (nI 1), .ref ra, .ref ca, .ref ha, .int (nI kp), .ref ba, .int (nI hd), .ref wa]))]) [0] (by decide) rfl
    have hK9 := hK.sub (tys' := []) [] rfl
    subst hAe
    refine W.widen (k := 0) (n := 0) (Nat.le_of_ble_eq_true rfl) (Nat.le_of_ble_eq_true rfl) ?_
    exact W.iret hx hb hr (fun t ht hW => ⟨⟨_, (), rfl, (rfl), by rw [ht]; exact hP9, va_K.moved hW.alike hK9, hD9⟩, hS.F ht⟩) hS.2.2 dX6_triedProduct_45
  · refine lv_iload_n hx hb dX6_triedProduct_15 rfl (lv_at hl 2 rfl) ?_
    refine lv_bipush (v := nI 16) hx hb dX6_triedProduct_16 zkb_16 ?_
    refine z_ci (va_runS (As := [.int x1, .int (nI 16)]) (rest := [.ref mo]) ⟨hx, hb, hml, hown, hts⟩ (c_X6_isNumber l D x1 16 (by omega)) (va_cwS 2 hts gX6_triedProduct_X6_isNumber rfl rfl rfl (by decide +kernel) ⟨Nat.le_of_ble_eq_true rfl, Nat.le_of_ble_eq_true rfl⟩) ⟨z_fb0, fun U hU hW => ⟨rfl, trivial⟩⟩ rfl rfl hl.1 rfl (lv_room (Nat.le_of_ble_eq_true rfl)) dX6_triedProduct_18 ⟨Nat.le_of_ble_eq_true rfl, Nat.le_of_ble_eq_true rfl⟩) (fun r18 e18 => ?_)
    subst e18
    refine z_bne (tgt := 28) hx hb dX6_triedProduct_21 (by decide) (fun c_21 => absurd hno (by simp [c_12, c_21])) (fun c_21 => ?_)
    refine lv_iconst (v := nI 1) hx hb dX6_triedProduct_24 zki_1 ?_
    refine lv_goto (tgt := 29) hx hb dX6_triedProduct_25 (by decide) ?_
    refine lv_iconst (v := nI 1) hx hb dX6_triedProduct_29 zki_1 ?_
    have hPc := hP.sub (ws' := [(mo, .inr (8, [.int (nI 0), .ref ra, .ref ca, .ref ha, .int (nI kp), .ref ba, .int (nI hd), .ref wa]))]) [0] rfl
    have hDc := hD.sub (ws' := [(mo, .inr (8, [.int (nI 0), .ref ra, .ref ca, .ref ha, .int (nI kp), .ref ba, .int (nI hd), .ref wa]))]) [0] (by decide) rfl
    have hKc := hK.sub (tys' := []) [] rfl
    have hFc := va_free (wc := [(mo, .inr (8, [.int (nI 0), .ref ra, .ref ca, .ref ha, .int (nI kp), .ref ba, .int (nI hd), .ref wa]))]) hD hS hA [0] rfl
    refine va_calli (va_runV (As := [.int (nI 1), .int (nI 1)]) (rest := []) ⟨hx, hb, hml, hown, hts⟩ (c_X6_fails_true l D H.size mo ra ca ha ba wa kp hd 1 (by omega) (by omega)) (cwV 2 hts gX6_triedProduct_X6_fails rfl rfl rfl (by decide +kernel) ⟨Nat.le_of_ble_eq_true rfl, Nat.le_of_ble_eq_true rfl⟩) ⟨(z_fb2), va_recv hK hP (ci := 8) (q0 := 0) rfl rfl, fun U hU hW => ⟨rfl, by rw [hU], by rw [hU]; exact hPc, va_K.moved hW.alike hKc, hDc.weaken (fun _ _ _ _ => trivial)⟩⟩ rfl rfl hl.1 rfl (lv_room (Nat.le_of_ble_eq_true rfl)) dX6_triedProduct_30 ⟨Nat.le_of_ble_eq_true rfl, Nat.le_of_ble_eq_true rfl⟩) hS (fun q _ h => hFc q h) hFc (fun r30 u30 t H locs ht hvm e30 hB hz1 hk1 hS => ?_)
    obtain ⟨hP1, hK1, hD1⟩ := hB
    rw [ht] at hP1
    obtain ⟨hP, hD⟩ := va_join (wr := []) (w1 := [(mo, .inr (8, [.int (nI 1), .ref ra, .ref ca, .ref ha, .int (nI kp), .ref ba, .int (nI hd), .ref wa]))]) hP hD [0] [] rfl rfl (by decide) (by decide) hk1 hFc hP1 hD1
    have hP : va_P D vwCl [(mo, .inr (8, [.int (nI 1), .ref ra, .ref ca, .ref ha, .int (nI kp), .ref ba, .int (nI hd), .ref wa]))] H := hP
    have hD : va_D A [(mo, .inr (8, [.int (nI 1), .ref ra, .ref ca, .ref ha, .int (nI kp), .ref ba, .int (nI hd), .ref wa]))] := hD
    refine W.widen (k := 0) (n := 0) (Nat.le_of_ble_eq_true rfl) (Nat.le_of_ble_eq_true rfl) ?_
    subst e30
    refine z_beq (tgt := 40) hx hb dX6_triedProduct_33 (by decide) (fun c_33 => absurd c_33 (by decide)) (fun c_33 => ?_)
    refine lv_iconst (v := nI 0) hx hb dX6_triedProduct_36 zki_0 ?_
    refine lv_goto (tgt := 45) hx hb dX6_triedProduct_37 (by decide) ?_
    have hP9 := hP.sub (ws' := [(mo, .inr (8, [.int (nI 1), .ref ra, .ref ca, .ref ha, .int (nI kp), .ref ba, .int (nI hd), .ref wa]))]) [0] rfl
    have hD9 := hD.sub (ws' := [(mo, .inr (8, [.int (nI 1), .ref ra, .ref ca, .ref ha, .int (nI kp), .ref ba, .int (nI hd), .ref wa]))]) [0] (by decide) rfl
    have hK9 := hK.sub (tys' := []) [] rfl
    subst hAe
    refine W.widen (k := 0) (n := 0) (Nat.le_of_ble_eq_true rfl) (Nat.le_of_ble_eq_true rfl) ?_
    exact W.iret hx hb hr (fun t ht hW => ⟨⟨_, (), rfl, (rfl), by rw [ht]; exact hP9, va_K.moved hW.alike hK9, hD9⟩, hS.F ht⟩) hS.2.2 dX6_triedProduct_45
abbrev rm_c_X6_times_ok : Room := { frames := 4, cells := 0, slots := 0, locals := 116 }
abbrev q_c_X6_times_ok (D : va_G) (sz : Nat) (mo : Nat) (ra : Nat) (ca : Nat) (ha : Nat) (ba : Nat) (wa : Nat) (kp : Nat) (hd : Nat) (th : Nat) (j : Nat) (k : Nat) : Array Value → State → Outcome → State → Prop := va_Qi (fun r (_ : Unit) => r = (nI (np j k))) (fun (_ : Unit) t => va_P D vwCl [(mo, .inr (8, [.int (nI 0), .ref ra, .ref ca, .ref ha, .int (nI kp), .ref ba, .int (nI hd), .ref wa]))] t.heap ∧ va_K D vwCl [] t ∧ va_D (va_A [(mo, .inr (8, [.int (nI th), .ref ra, .ref ca, .ref ha, .int (nI kp), .ref ba, .int (nI hd), .ref wa]))] sz) [(mo, .inr (8, [.int (nI 0), .ref ra, .ref ca, .ref ha, .int (nI kp), .ref ba, .int (nI hd), .ref wa]))]) (va_A [(mo, .inr (8, [.int (nI th), .ref ra, .ref ca, .ref ha, .int (nI kp), .ref ba, .int (nI hd), .ref wa]))] sz)
set_option maxHeartbeats 4000000 in
set_option maxRecDepth 100000 in
theorem c_X6_times_ok (l : Launch) (D : va_G) (sz : Nat) (mo : Nat) (ra : Nat) (ca : Nat) (ha : Nat) (ba : Nat) (wa : Nat) (kp : Nat) (hd : Nat) (th : Nat) (j : Nat) (k : Nat) (hj : j < 256) (hk : k < 256) : Met l yX6_times wsX6_times rm_c_X6_times_ok (va_Pc [.ref mo, .int (nI j), .int (nI k)] (fun U => U.heap.size = sz ∧ va_P D vwCl [(mo, .inr (8, [.int (nI th), .ref ra, .ref ca, .ref ha, .int (nI kp), .ref ba, .int (nI hd), .ref wa]))] U.heap ∧ va_K D vwCl [] U ∧ va_D (fun _ => True) [(mo, .inr (8, [.int (nI th), .ref ra, .ref ca, .ref ha, .int (nI kp), .ref ba, .int (nI hd), .ref wa]))])) (q_c_X6_times_ok D sz mo ra ca ha ba wa kp hd th j k) 0 0 (va_A [(mo, .inr (8, [.int (nI th), .ref ra, .ref ca, .ref ha, .int (nI kp), .ref ba, .int (nI hd), .ref wa]))] sz) := by
  refine Met.ofW (cc := cX6_times) (maxL := 3) (ret := (some .int)) (by decide) rfl ?_
  intro p e s m args below meth c s₁ B hml hv
  obtain ⟨hargs, hsz, hP, hK, hD0⟩ := hv
  have hx := B.exec
  have hb := B.bytes
  have hr := B.returns
  have hts := atoms_spec (ws := wsX6_times) B.pre
  have hown : s.vm.findClass RX6 = some m.cls := findClass_of_methodNamed B.named
  have hlocks := B.notSynchronized
  subst hsz
  have hD := hD0.self (sz := s.heap.size)
  generalize hAe : va_A [(mo, .inr (8, [.int (nI th), .ref ra, .ref ca, .ref ha, .int (nI kp), .ref ba, .int (nI hd), .ref wa]))] s.heap.size = A at hD ⊢
  have hA : ∀ q : Nat, s.heap.size ≤ q → A q := fun q h => by rw [← hAe]; exact Or.inr h
  have hS : va_S A s.heap s.heap [] := va_S.rf
  have hl := lv_entry ([.ref mo, .int (nI j), .int (nI k)]) (n := 3) (Nat.le_of_ble_eq_true rfl)
  refine W.eq (g2 := F0 m 0 (lg_sl ([.ref mo, .int (nI j), .int (nI k)]) ++ List.replicate (3 - (lg_sl ([.ref mo, .int (nI j), .int (nI k)])).length) Slot.unset).toArray []) (by rw [hargs]; exact lg_entry_eq _ _ _) ?_
  generalize (lg_sl ([.ref mo, .int (nI j), .int (nI k)]) ++ List.replicate (3 - (lg_sl ([.ref mo, .int (nI j), .int (nI k)])).length) Slot.unset).toArray = ls at hl ⊢
  have hl : lv_has ls 3 [(0, .ref mo), (1, .int (nI j)), (2, .int (nI k))] := hl
  refine lv_aload_n hx hb dX6_times_0 rfl (lv_at hl 0 rfl) ?_
  refine lv_iconst (v := nI 0) hx hb dX6_times_1 zki_0 ?_
  refine va_put (D := D) (ci := 8) (v := .int (nI 0)) (ty := .int) (C := RX6) (T := TX6) (N := 8) hx hb hts nX6_times_inX6 tyX6 tyX6_ok nmX6 hown hK hP hD hS 0 rfl rfl 0 (by decide) (hts (.fieldLink RX6 26 "GamefieldModel" "thrown" "I") (by decide +kernel)) (fun _ h9 => h9) rfl (by decide +kernel) rfl rfl (Nat.le_of_ble_eq_true rfl) dX6_times_2 (fun H locs hP hD hS => ?_)
  have hP : va_P D vwCl [(mo, .inr (8, [.int (nI 0), .ref ra, .ref ca, .ref ha, .int (nI kp), .ref ba, .int (nI hd), .ref wa]))] H := hP
  have hD : va_D A [(mo, .inr (8, [.int (nI 0), .ref ra, .ref ca, .ref ha, .int (nI kp), .ref ba, .int (nI hd), .ref wa]))] := hD
  refine lv_aload_n hx hb dX6_times_5 rfl (lv_at hl 0 rfl) ?_
  refine lv_iload_n hx hb dX6_times_6 rfl (lv_at hl 1 rfl) ?_
  refine lv_sipush (v := nI 256) hx hb dX6_times_7 zks_256 ?_
  refine z_ci (va_runS (As := [.int (nI j), .int (nI 256)]) (rest := [.ref mo]) ⟨hx, hb, hml, hown, hts⟩ (c_X6_isNumber_ok l D j 256 (by omega) (by omega)) (va_cwS 2 hts gX6_times_X6_isNumber rfl rfl rfl (by decide +kernel) ⟨Nat.le_of_ble_eq_true rfl, Nat.le_of_ble_eq_true rfl⟩) ⟨z_fb0, fun U hU hW => ⟨rfl, trivial⟩⟩ rfl rfl hl.1 rfl (lv_room (Nat.le_of_ble_eq_true rfl)) dX6_times_10 ⟨Nat.le_of_ble_eq_true rfl, Nat.le_of_ble_eq_true rfl⟩) (fun r10 e10 => ?_)
  subst e10
  refine z_beq (tgt := 26) hx hb dX6_times_13 (by decide) (fun c_13 => absurd c_13 (by decide)) (fun c_13 => ?_)
  refine lv_iload_n hx hb dX6_times_16 rfl (lv_at hl 2 rfl) ?_
  refine lv_sipush (v := nI 256) hx hb dX6_times_17 zks_256 ?_
  refine z_ci (va_runS (As := [.int (nI k), .int (nI 256)]) (rest := [.ref mo]) ⟨hx, hb, hml, hown, hts⟩ (c_X6_isNumber_ok l D k 256 (by omega) (by omega)) (va_cwS 2 hts gX6_times_X6_isNumber rfl rfl rfl (by decide +kernel) ⟨Nat.le_of_ble_eq_true rfl, Nat.le_of_ble_eq_true rfl⟩) ⟨z_fb0, fun U hU hW => ⟨rfl, trivial⟩⟩ rfl rfl hl.1 rfl (lv_room (Nat.le_of_ble_eq_true rfl)) dX6_times_20 ⟨Nat.le_of_ble_eq_true rfl, Nat.le_of_ble_eq_true rfl⟩) (fun r20 e20 => ?_)
  subst e20
  refine z_bne (tgt := 30) hx hb dX6_times_23 (by decide) (fun c_23 => ?_) (fun c_23 => absurd c_23 (by decide))
  refine lv_iconst (v := nI 0) hx hb dX6_times_30 zki_0 ?_
  refine lv_iconst (v := nI 1) hx hb dX6_times_31 zki_1 ?_
  have hPc := hP.sub (ws' := [(mo, .inr (8, [.int (nI 0), .ref ra, .ref ca, .ref ha, .int (nI kp), .ref ba, .int (nI hd), .ref wa]))]) [0] rfl
  have hDc := hD.sub (ws' := [(mo, .inr (8, [.int (nI 0), .ref ra, .ref ca, .ref ha, .int (nI kp), .ref ba, .int (nI hd), .ref wa]))]) [0] (by decide) rfl
  have hKc := hK.sub (tys' := []) [] rfl
  have hFc := va_free (wc := [(mo, .inr (8, [.int (nI 0), .ref ra, .ref ca, .ref ha, .int (nI kp), .ref ba, .int (nI hd), .ref wa]))]) hD hS hA [0] rfl
  refine va_calli (va_runV (As := [.int (nI 0), .int (nI 1)]) (rest := []) ⟨hx, hb, hml, hown, hts⟩ (c_X6_fails_false l D H.size mo ra ca ha ba wa kp hd 1 (by omega) (by omega)) (cwV 2 hts gX6_times_X6_fails rfl rfl rfl (by decide +kernel) ⟨Nat.le_of_ble_eq_true rfl, Nat.le_of_ble_eq_true rfl⟩) ⟨(z_fb2), va_recv hK hP (ci := 8) (q0 := 0) rfl rfl, fun U hU hW => ⟨rfl, by rw [hU], by rw [hU]; exact hPc, va_K.moved hW.alike hKc, hDc.weaken (fun _ _ _ _ => trivial)⟩⟩ rfl rfl hl.1 rfl (lv_room (Nat.le_of_ble_eq_true rfl)) dX6_times_32 ⟨Nat.le_of_ble_eq_true rfl, Nat.le_of_ble_eq_true rfl⟩) hS (fun q _ h => hFc q h) hFc (fun r32 u32 t H locs ht hvm e32 hB hz1 hk1 hS => ?_)
  obtain ⟨hP1, hK1, hD1⟩ := hB
  rw [ht] at hP1
  obtain ⟨hP, hD⟩ := va_join (wr := []) (w1 := [(mo, .inr (8, [.int (nI 0), .ref ra, .ref ca, .ref ha, .int (nI kp), .ref ba, .int (nI hd), .ref wa]))]) hP hD [0] [] rfl rfl (by decide) (by decide) hk1 hFc hP1 hD1
  have hP : va_P D vwCl [(mo, .inr (8, [.int (nI 0), .ref ra, .ref ca, .ref ha, .int (nI kp), .ref ba, .int (nI hd), .ref wa]))] H := hP
  have hD : va_D A [(mo, .inr (8, [.int (nI 0), .ref ra, .ref ca, .ref ha, .int (nI kp), .ref ba, .int (nI hd), .ref wa]))] := hD
  refine W.widen (k := 0) (n := 0) (Nat.le_of_ble_eq_true rfl) (Nat.le_of_ble_eq_true rfl) ?_
  subst e32
  refine z_beq (tgt := 42) hx hb dX6_times_35 (by decide) (fun c_35 => ?_) (fun c_35 => absurd c_35 (by decide))
  refine lv_iload_n hx hb dX6_times_42 rfl (lv_at hl 1 rfl) ?_
  refine lv_iload_n hx hb dX6_times_43 rfl (lv_at hl 2 rfl) ?_
  refine z_ci (va_runS (As := [.int (nI j), .int (nI k)]) (rest := []) ⟨hx, hb, hml, hown, hts⟩ (c_X6_productOf_256 l D j k (by omega) (by omega)) (va_cwS 2 hts gX6_times_X6_productOf rfl rfl rfl (by decide +kernel) ⟨Nat.le_of_ble_eq_true rfl, Nat.le_of_ble_eq_true rfl⟩) ⟨z_fb0, fun U hU hW => ⟨rfl, trivial⟩⟩ rfl rfl hl.1 rfl (lv_room (Nat.le_of_ble_eq_true rfl)) dX6_times_44 ⟨Nat.le_of_ble_eq_true rfl, Nat.le_of_ble_eq_true rfl⟩) (fun r44 e44 => ?_)
  subst e44
  have hn44 : np j k < 256 := np_lt (by omega) (by omega)
  have hP9 := hP.sub (ws' := [(mo, .inr (8, [.int (nI 0), .ref ra, .ref ca, .ref ha, .int (nI kp), .ref ba, .int (nI hd), .ref wa]))]) [0] rfl
  have hD9 := hD.sub (ws' := [(mo, .inr (8, [.int (nI 0), .ref ra, .ref ca, .ref ha, .int (nI kp), .ref ba, .int (nI hd), .ref wa]))]) [0] (by decide) rfl
  have hK9 := hK.sub (tys' := []) [] rfl
  subst hAe
  refine W.widen (k := 0) (n := 0) (Nat.le_of_ble_eq_true rfl) (Nat.le_of_ble_eq_true rfl) ?_
  exact W.iret hx hb hr (fun t ht hW => ⟨⟨_, (), rfl, (rfl), by rw [ht]; exact hP9, va_K.moved hW.alike hK9, hD9⟩, hS.F ht⟩) hS.2.2 dX6_times_47
abbrev rm_c_X6_times_no : Room := { frames := 1, cells := 0, slots := 0, locals := 22 }
abbrev q_c_X6_times_no (D : va_G) (sz : Nat) (mo : Nat) (ra : Nat) (ca : Nat) (ha : Nat) (ba : Nat) (wa : Nat) (kp : Nat) (hd : Nat) (th : Nat) (x0 : Int32) (x1 : Int32) : Array Value → State → Outcome → State → Prop := va_Qi (fun r (_ : Unit) => r = (nI 0)) (fun (_ : Unit) t => va_P D vwCl [(mo, .inr (8, [.int (nI 1), .ref ra, .ref ca, .ref ha, .int (nI kp), .ref ba, .int (nI hd), .ref wa]))] t.heap ∧ va_K D vwCl [] t ∧ va_D (va_A [(mo, .inr (8, [.int (nI th), .ref ra, .ref ca, .ref ha, .int (nI kp), .ref ba, .int (nI hd), .ref wa]))] sz) [(mo, .inr (8, [.int (nI 1), .ref ra, .ref ca, .ref ha, .int (nI kp), .ref ba, .int (nI hd), .ref wa]))]) (va_A [(mo, .inr (8, [.int (nI th), .ref ra, .ref ca, .ref ha, .int (nI kp), .ref ba, .int (nI hd), .ref wa]))] sz)
set_option maxHeartbeats 4000000 in
set_option maxRecDepth 100000 in
theorem c_X6_times_no (l : Launch) (D : va_G) (sz : Nat) (mo : Nat) (ra : Nat) (ca : Nat) (ha : Nat) (ba : Nat) (wa : Nat) (kp : Nat) (hd : Nat) (th : Nat) (x0 : Int32) (x1 : Int32) (hno : (inN 256 x0 && inN 256 x1) = false) : Met l yX6_times wsX6_times rm_c_X6_times_no (va_Pc [.ref mo, .int x0, .int x1] (fun U => U.heap.size = sz ∧ va_P D vwCl [(mo, .inr (8, [.int (nI th), .ref ra, .ref ca, .ref ha, .int (nI kp), .ref ba, .int (nI hd), .ref wa]))] U.heap ∧ va_K D vwCl [] U ∧ va_D (fun _ => True) [(mo, .inr (8, [.int (nI th), .ref ra, .ref ca, .ref ha, .int (nI kp), .ref ba, .int (nI hd), .ref wa]))])) (q_c_X6_times_no D sz mo ra ca ha ba wa kp hd th x0 x1) 0 0 (va_A [(mo, .inr (8, [.int (nI th), .ref ra, .ref ca, .ref ha, .int (nI kp), .ref ba, .int (nI hd), .ref wa]))] sz) := by
  refine Met.ofW (cc := cX6_times) (maxL := 3) (ret := (some .int)) (by decide) rfl ?_
  intro p e s m args below meth c s₁ B hml hv
  obtain ⟨hargs, hsz, hP, hK, hD0⟩ := hv
  have hx := B.exec
  have hb := B.bytes
  have hr := B.returns
  have hts := atoms_spec (ws := wsX6_times) B.pre
  have hown : s.vm.findClass RX6 = some m.cls := findClass_of_methodNamed B.named
  have hlocks := B.notSynchronized
  subst hsz
  have hD := hD0.self (sz := s.heap.size)
  generalize hAe : va_A [(mo, .inr (8, [.int (nI th), .ref ra, .ref ca, .ref ha, .int (nI kp), .ref ba, .int (nI hd), .ref wa]))] s.heap.size = A at hD ⊢
  have hA : ∀ q : Nat, s.heap.size ≤ q → A q := fun q h => by rw [← hAe]; exact Or.inr h
  have hS : va_S A s.heap s.heap [] := va_S.rf
  have hl := lv_entry ([.ref mo, .int x0, .int x1]) (n := 3) (Nat.le_of_ble_eq_true rfl)
  refine W.eq (g2 := F0 m 0 (lg_sl ([.ref mo, .int x0, .int x1]) ++ List.replicate (3 - (lg_sl ([.ref mo, .int x0, .int x1])).length) Slot.unset).toArray []) (by rw [hargs]; exact lg_entry_eq _ _ _) ?_
  generalize (lg_sl ([.ref mo, .int x0, .int x1]) ++ List.replicate (3 - (lg_sl ([.ref mo, .int x0, .int x1])).length) Slot.unset).toArray = ls at hl ⊢
  have hl : lv_has ls 3 [(0, .ref mo), (1, .int x0), (2, .int x1)] := hl
  refine lv_aload_n hx hb dX6_times_0 rfl (lv_at hl 0 rfl) ?_
  refine lv_iconst (v := nI 0) hx hb dX6_times_1 zki_0 ?_
  refine va_put (D := D) (ci := 8) (v := .int (nI 0)) (ty := .int) (C := RX6) (T := TX6) (N := 8) hx hb hts nX6_times_inX6 tyX6 tyX6_ok nmX6 hown hK hP hD hS 0 rfl rfl 0 (by decide) (hts (.fieldLink RX6 26 "GamefieldModel" "thrown" "I") (by decide +kernel)) (fun _ h9 => h9) rfl (by decide +kernel) rfl rfl (Nat.le_of_ble_eq_true rfl) dX6_times_2 (fun H locs hP hD hS => ?_)
  have hP : va_P D vwCl [(mo, .inr (8, [.int (nI 0), .ref ra, .ref ca, .ref ha, .int (nI kp), .ref ba, .int (nI hd), .ref wa]))] H := hP
  have hD : va_D A [(mo, .inr (8, [.int (nI 0), .ref ra, .ref ca, .ref ha, .int (nI kp), .ref ba, .int (nI hd), .ref wa]))] := hD
  refine lv_aload_n hx hb dX6_times_5 rfl (lv_at hl 0 rfl) ?_
  refine lv_iload_n hx hb dX6_times_6 rfl (lv_at hl 1 rfl) ?_
  refine lv_sipush (v := nI 256) hx hb dX6_times_7 zks_256 ?_
  refine z_ci (va_runS (As := [.int x0, .int (nI 256)]) (rest := [.ref mo]) ⟨hx, hb, hml, hown, hts⟩ (c_X6_isNumber l D x0 256 (by omega)) (va_cwS 2 hts gX6_times_X6_isNumber rfl rfl rfl (by decide +kernel) ⟨Nat.le_of_ble_eq_true rfl, Nat.le_of_ble_eq_true rfl⟩) ⟨z_fb0, fun U hU hW => ⟨rfl, trivial⟩⟩ rfl rfl hl.1 rfl (lv_room (Nat.le_of_ble_eq_true rfl)) dX6_times_10 ⟨Nat.le_of_ble_eq_true rfl, Nat.le_of_ble_eq_true rfl⟩) (fun r10 e10 => ?_)
  subst e10
  refine z_beq (tgt := 26) hx hb dX6_times_13 (by decide) (fun c_13 => ?_) (fun c_13 => ?_)
  · refine lv_iconst (v := nI 1) hx hb dX6_times_26 zki_1 ?_
    refine lv_goto (tgt := 31) hx hb dX6_times_27 (by decide) ?_
    refine lv_iconst (v := nI 1) hx hb dX6_times_31 zki_1 ?_
    have hPc := hP.sub (ws' := [(mo, .inr (8, [.int (nI 0), .ref ra, .ref ca, .ref ha, .int (nI kp), .ref ba, .int (nI hd), .ref wa]))]) [0] rfl
    have hDc := hD.sub (ws' := [(mo, .inr (8, [.int (nI 0), .ref ra, .ref ca, .ref ha, .int (nI kp), .ref ba, .int (nI hd), .ref wa]))]) [0] (by decide) rfl
    have hKc := hK.sub (tys' := []) [] rfl
    have hFc := va_free (wc := [(mo, .inr (8, [.int (nI 0), .ref ra, .ref ca, .ref ha, .int (nI kp), .ref ba, .int (nI hd), .ref wa]))]) hD hS hA [0] rfl
    refine va_calli (va_runV (As := [.int (nI 1), .int (nI 1)]) (rest := []) ⟨hx, hb, hml, hown, hts⟩ (c_X6_fails_true l D H.size mo ra ca ha ba wa kp hd 1 (by omega) (by omega)) (cwV 2 hts gX6_times_X6_fails rfl rfl rfl (by decide +kernel) ⟨Nat.le_of_ble_eq_true rfl, Nat.le_of_ble_eq_true rfl⟩) ⟨(z_fb2), va_recv hK hP (ci := 8) (q0 := 0) rfl rfl, fun U hU hW => ⟨rfl, by rw [hU], by rw [hU]; exact hPc, va_K.moved hW.alike hKc, hDc.weaken (fun _ _ _ _ => trivial)⟩⟩ rfl rfl hl.1 rfl (lv_room (Nat.le_of_ble_eq_true rfl)) dX6_times_32 ⟨Nat.le_of_ble_eq_true rfl, Nat.le_of_ble_eq_true rfl⟩) hS (fun q _ h => hFc q h) hFc (fun r32 u32 t H locs ht hvm e32 hB hz1 hk1 hS => ?_)
    obtain ⟨hP1, hK1, hD1⟩ := hB
    rw [ht] at hP1
    obtain ⟨hP, hD⟩ := va_join (wr := []) (w1 := [(mo, .inr (8, [.int (nI 1), .ref ra, .ref ca, .ref ha, .int (nI kp), .ref ba, .int (nI hd), .ref wa]))]) hP hD [0] [] rfl rfl (by decide) (by decide) hk1 hFc hP1 hD1
    have hP : va_P D vwCl [(mo, .inr (8, [.int (nI 1), .ref ra, .ref ca, .ref ha, .int (nI kp), .ref ba, .int (nI hd), .ref wa]))] H := hP
    have hD : va_D A [(mo, .inr (8, [.int (nI 1), .ref ra, .ref ca, .ref ha, .int (nI kp), .ref ba, .int (nI hd), .ref wa]))] := hD
    refine W.widen (k := 0) (n := 0) (Nat.le_of_ble_eq_true rfl) (Nat.le_of_ble_eq_true rfl) ?_
    subst e32
    refine z_beq (tgt := 42) hx hb dX6_times_35 (by decide) (fun c_35 => absurd c_35 (by decide)) (fun c_35 => ?_)
    refine lv_iconst (v := nI 0) hx hb dX6_times_38 zki_0 ?_
    refine lv_goto (tgt := 47) hx hb dX6_times_39 (by decide) ?_
    have hP9 := hP.sub (ws' := [(mo, .inr (8, [.int (nI 1), .ref ra, .ref ca, .ref ha, .int (nI kp), .ref ba, .int (nI hd), .ref wa]))]) [0] rfl
    have hD9 := hD.sub (ws' := [(mo, .inr (8, [.int (nI 1), .ref ra, .ref ca, .ref ha, .int (nI kp), .ref ba, .int (nI hd), .ref wa]))]) [0] (by decide) rfl
    have hK9 := hK.sub (tys' := []) [] rfl
    subst hAe
    refine W.widen (k := 0) (n := 0) (Nat.le_of_ble_eq_true rfl) (Nat.le_of_ble_eq_true rfl) ?_
    exact W.iret hx hb hr (fun t ht hW => ⟨⟨_, (), rfl, (rfl), by rw [ht]; exact hP9, va_K.moved hW.alike hK9, hD9⟩, hS.F ht⟩) hS.2.2 dX6_times_47
  · refine lv_iload_n hx hb dX6_times_16 rfl (lv_at hl 2 rfl) ?_
    refine lv_sipush (v := nI 256) hx hb dX6_times_17 zks_256 ?_
    refine z_ci (va_runS (As := [.int x1, .int (nI 256)]) (rest := [.ref mo]) ⟨hx, hb, hml, hown, hts⟩ (c_X6_isNumber l D x1 256 (by omega)) (va_cwS 2 hts gX6_times_X6_isNumber rfl rfl rfl (by decide +kernel) ⟨Nat.le_of_ble_eq_true rfl, Nat.le_of_ble_eq_true rfl⟩) ⟨z_fb0, fun U hU hW => ⟨rfl, trivial⟩⟩ rfl rfl hl.1 rfl (lv_room (Nat.le_of_ble_eq_true rfl)) dX6_times_20 ⟨Nat.le_of_ble_eq_true rfl, Nat.le_of_ble_eq_true rfl⟩) (fun r20 e20 => ?_)
    subst e20
    refine z_bne (tgt := 30) hx hb dX6_times_23 (by decide) (fun c_23 => absurd hno (by simp [c_13, c_23])) (fun c_23 => ?_)
    refine lv_iconst (v := nI 1) hx hb dX6_times_26 zki_1 ?_
    refine lv_goto (tgt := 31) hx hb dX6_times_27 (by decide) ?_
    refine lv_iconst (v := nI 1) hx hb dX6_times_31 zki_1 ?_
    have hPc := hP.sub (ws' := [(mo, .inr (8, [.int (nI 0), .ref ra, .ref ca, .ref ha, .int (nI kp), .ref ba, .int (nI hd), .ref wa]))]) [0] rfl
    have hDc := hD.sub (ws' := [(mo, .inr (8, [.int (nI 0), .ref ra, .ref ca, .ref ha, .int (nI kp), .ref ba, .int (nI hd), .ref wa]))]) [0] (by decide) rfl
    have hKc := hK.sub (tys' := []) [] rfl
    have hFc := va_free (wc := [(mo, .inr (8, [.int (nI 0), .ref ra, .ref ca, .ref ha, .int (nI kp), .ref ba, .int (nI hd), .ref wa]))]) hD hS hA [0] rfl
    refine va_calli (va_runV (As := [.int (nI 1), .int (nI 1)]) (rest := []) ⟨hx, hb, hml, hown, hts⟩ (c_X6_fails_true l D H.size mo ra ca ha ba wa kp hd 1 (by omega) (by omega)) (cwV 2 hts gX6_times_X6_fails rfl rfl rfl (by decide +kernel) ⟨Nat.le_of_ble_eq_true rfl, Nat.le_of_ble_eq_true rfl⟩) ⟨(z_fb2), va_recv hK hP (ci := 8) (q0 := 0) rfl rfl, fun U hU hW => ⟨rfl, by rw [hU], by rw [hU]; exact hPc, va_K.moved hW.alike hKc, hDc.weaken (fun _ _ _ _ => trivial)⟩⟩ rfl rfl hl.1 rfl (lv_room (Nat.le_of_ble_eq_true rfl)) dX6_times_32 ⟨Nat.le_of_ble_eq_true rfl, Nat.le_of_ble_eq_true rfl⟩) hS (fun q _ h => hFc q h) hFc (fun r32 u32 t H locs ht hvm e32 hB hz1 hk1 hS => ?_)
    obtain ⟨hP1, hK1, hD1⟩ := hB
    rw [ht] at hP1
    obtain ⟨hP, hD⟩ := va_join (wr := []) (w1 := [(mo, .inr (8, [.int (nI 1), .ref ra, .ref ca, .ref ha, .int (nI kp), .ref ba, .int (nI hd), .ref wa]))]) hP hD [0] [] rfl rfl (by decide) (by decide) hk1 hFc hP1 hD1
    have hP : va_P D vwCl [(mo, .inr (8, [.int (nI 1), .ref ra, .ref ca, .ref ha, .int (nI kp), .ref ba, .int (nI hd), .ref wa]))] H := hP
    have hD : va_D A [(mo, .inr (8, [.int (nI 1), .ref ra, .ref ca, .ref ha, .int (nI kp), .ref ba, .int (nI hd), .ref wa]))] := hD
    refine W.widen (k := 0) (n := 0) (Nat.le_of_ble_eq_true rfl) (Nat.le_of_ble_eq_true rfl) ?_
    subst e32
    refine z_beq (tgt := 42) hx hb dX6_times_35 (by decide) (fun c_35 => absurd c_35 (by decide)) (fun c_35 => ?_)
    refine lv_iconst (v := nI 0) hx hb dX6_times_38 zki_0 ?_
    refine lv_goto (tgt := 47) hx hb dX6_times_39 (by decide) ?_
    have hP9 := hP.sub (ws' := [(mo, .inr (8, [.int (nI 1), .ref ra, .ref ca, .ref ha, .int (nI kp), .ref ba, .int (nI hd), .ref wa]))]) [0] rfl
    have hD9 := hD.sub (ws' := [(mo, .inr (8, [.int (nI 1), .ref ra, .ref ca, .ref ha, .int (nI kp), .ref ba, .int (nI hd), .ref wa]))]) [0] (by decide) rfl
    have hK9 := hK.sub (tys' := []) [] rfl
    subst hAe
    refine W.widen (k := 0) (n := 0) (Nat.le_of_ble_eq_true rfl) (Nat.le_of_ble_eq_true rfl) ?_
    exact W.iret hx hb hr (fun t ht hW => ⟨⟨_, (), rfl, (rfl), by rw [ht]; exact hP9, va_K.moved hW.alike hK9, hD9⟩, hS.F ht⟩) hS.2.2 dX6_times_47
abbrev rm_c_X6_coin : Room := { frames := 0, cells := 0, slots := 0, locals := 0 }
abbrev q_c_X6_coin (D : va_G) (x : Nat) (y : Nat) : Array Value → State → Outcome → State → Prop := vp_Si (fun r => r = (nI (1 * 2 ^ (4 * x + y))))
set_option maxHeartbeats 4000000 in
set_option maxRecDepth 100000 in
theorem c_X6_coin (l : Launch) (D : va_G) (x : Nat) (y : Nat) (hx4 : x < 4) (hy4 : y < 4) : Met l yX6_coin wsX6_coin rm_c_X6_coin (va_Pc [.int (nI x), .int (nI y)] (fun _ => True)) (q_c_X6_coin D x y) 0 0 (fun _ => False) := by
  refine Met.ofW (cc := cX6_coin) (maxL := 2) (ret := (some .int)) (by decide) rfl ?_
  intro p e s m args below meth c s₁ B hml hv
  obtain ⟨hargs, -⟩ := hv
  have hx := B.exec
  have hb := B.bytes
  have hr := B.returns
  have hts := atoms_spec (ws := wsX6_coin) B.pre
  have hown : s.vm.findClass RX6 = some m.cls := findClass_of_methodNamed B.named
  have hlocks := B.notSynchronized
  have hl := lv_entry ([.int (nI x), .int (nI y)]) (n := 2) (Nat.le_of_ble_eq_true rfl)
  refine W.eq (g2 := F0 m 0 (lg_sl ([.int (nI x), .int (nI y)]) ++ List.replicate (2 - (lg_sl ([.int (nI x), .int (nI y)])).length) Slot.unset).toArray []) (by rw [hargs]; exact lg_entry_eq _ _ _) ?_
  generalize (lg_sl ([.int (nI x), .int (nI y)]) ++ List.replicate (2 - (lg_sl ([.int (nI x), .int (nI y)])).length) Slot.unset).toArray = ls at hl ⊢
  have hl : lv_has ls 2 [(0, .int (nI x)), (1, .int (nI y))] := hl
  refine lv_iconst (v := nI 1) hx hb dX6_coin_0 zki_1 ?_
  refine lv_iconst (v := nI 4) hx hb dX6_coin_1 zki_4 ?_
  refine lv_iload_n hx hb dX6_coin_2 rfl (lv_at hl 0 rfl) ?_
  refine z_mul hx hb dX6_coin_3 ?_
  refine lv_iload_n hx hb dX6_coin_4 rfl (lv_at hl 1 rfl) ?_
  refine z_add hx hb dX6_coin_5 ?_
  refine z_shl hx hb (by omega) (by have := pow_lt16 (k := 4 * x + y) (by omega); omega) dX6_coin_6 ?_
  exact W.iret hx hb hr (fun t ht _ => ⟨_, rfl, (rfl), ht⟩) (fun _ h => nomatch h) dX6_coin_7
abbrev rm_c_X6_isUp : Room := { frames := 1, cells := 0, slots := 0, locals := 21 }
abbrev q_c_X6_isUp (D : va_G) (n : Nat) (x : Nat) (y : Nat) : Array Value → State → Outcome → State → Prop := vp_Si (fun r => r = (bI (n.testBit (4 * x + y))))
set_option maxHeartbeats 4000000 in
set_option maxRecDepth 100000 in
theorem c_X6_isUp (l : Launch) (D : va_G) (n : Nat) (x : Nat) (y : Nat) (hx4 : x < 4) (hy4 : y < 4) (hn : n < 65536) : Met l yX6_isUp wsX6_isUp rm_c_X6_isUp (va_Pc [.int (nI n), .int (nI x), .int (nI y)] (fun _ => True)) (q_c_X6_isUp D n x y) 0 0 (fun _ => False) := by
  refine Met.ofW (cc := cX6_isUp) (maxL := 3) (ret := (some .boolean)) (by decide) rfl ?_
  intro p e s m args below meth c s₁ B hml hv
  obtain ⟨hargs, -⟩ := hv
  have hx := B.exec
  have hb := B.bytes
  have hr := B.returns
  have hts := atoms_spec (ws := wsX6_isUp) B.pre
  have hown : s.vm.findClass RX6 = some m.cls := findClass_of_methodNamed B.named
  have hlocks := B.notSynchronized
  have hl := lv_entry ([.int (nI n), .int (nI x), .int (nI y)]) (n := 3) (Nat.le_of_ble_eq_true rfl)
  refine W.eq (g2 := F0 m 0 (lg_sl ([.int (nI n), .int (nI x), .int (nI y)]) ++ List.replicate (3 - (lg_sl ([.int (nI n), .int (nI x), .int (nI y)])).length) Slot.unset).toArray []) (by rw [hargs]; exact lg_entry_eq _ _ _) ?_
  generalize (lg_sl ([.int (nI n), .int (nI x), .int (nI y)]) ++ List.replicate (3 - (lg_sl ([.int (nI n), .int (nI x), .int (nI y)])).length) Slot.unset).toArray = ls at hl ⊢
  have hl : lv_has ls 3 [(0, .int (nI n)), (1, .int (nI x)), (2, .int (nI y))] := hl
  refine lv_iload_n hx hb dX6_isUp_0 rfl (lv_at hl 0 rfl) ?_
  refine lv_iload_n hx hb dX6_isUp_1 rfl (lv_at hl 1 rfl) ?_
  refine lv_iload_n hx hb dX6_isUp_2 rfl (lv_at hl 2 rfl) ?_
  refine z_ci (va_runS (As := [.int (nI x), .int (nI y)]) (rest := [.int (nI n)]) ⟨hx, hb, hml, hown, hts⟩ (c_X6_coin l D x y (by omega) (by omega)) (va_cwS 2 hts gX6_isUp_X6_coin rfl rfl rfl (by decide +kernel) ⟨Nat.le_of_ble_eq_true rfl, Nat.le_of_ble_eq_true rfl⟩) ⟨z_fb0, fun U hU hW => ⟨rfl, trivial⟩⟩ rfl rfl hl.1 rfl (lv_room (Nat.le_of_ble_eq_true rfl)) dX6_isUp_3 ⟨Nat.le_of_ble_eq_true rfl, Nat.le_of_ble_eq_true rfl⟩) (fun r3 e3 => ?_)
  subst e3
  have hpw3 := pow_lt16 (k := 4 * x + y) (by omega)
  refine z_and hx hb dX6_isUp_6 ?_
  have hb7 : n &&& 1 * 2 ^ (4 * x + y) < 65536 := Nat.lt_of_le_of_lt Nat.and_le_left hn
  refine z_feq (tgt := 14) hx hb (by omega) dX6_isUp_7 (by decide) (fun c_7 => ?_) (fun c_7 => ?_)
  · refine lv_iconst (v := nI 0) hx hb dX6_isUp_14 zki_0 ?_
    refine zt (show nI 0 = bI false from rfl) ?_
    exact W.zret (ty := .boolean) hx hb hr (z_narB _) (fun t ht _ => ⟨_, rfl, (congrArg bI ((bitp_0 _ _).mp (by omega)).symm), ht⟩) (fun _ h => nomatch h) dX6_isUp_15
  · refine lv_iconst (v := nI 1) hx hb dX6_isUp_10 zki_1 ?_
    refine lv_goto (tgt := 15) hx hb dX6_isUp_11 (by decide) ?_
    refine zt (show nI 1 = bI true from rfl) ?_
    exact W.zret (ty := .boolean) hx hb hr (z_narB _) (fun t ht _ => ⟨_, rfl, (congrArg bI ((bitp_p _ _).mp (by omega)).symm), ht⟩) (fun _ h => nomatch h) dX6_isUp_15
abbrev rm_c_X6_turned : Room := { frames := 1, cells := 0, slots := 0, locals := 21 }
abbrev q_c_X6_turned (D : va_G) (n : Nat) (x : Nat) (y : Nat) (x2 : Nat) (y2 : Nat) : Array Value → State → Outcome → State → Prop := vp_Si (fun r => r = (nI (trn n x y x2 y2)))
set_option maxHeartbeats 4000000 in
set_option maxRecDepth 100000 in
theorem c_X6_turned (l : Launch) (D : va_G) (n : Nat) (x : Nat) (y : Nat) (x2 : Nat) (y2 : Nat) (hx4 : x < 4) (hy4 : y < 4) (hx5 : x2 < 4) (hy5 : y2 < 4) (hn : n < 65536) : Met l yX6_turned wsX6_turned rm_c_X6_turned (va_Pc [.int (nI n), .int (nI x), .int (nI y), .int (nI x2), .int (nI y2)] (fun _ => True)) (q_c_X6_turned D n x y x2 y2) 0 0 (fun _ => False) := by
  refine Met.ofW (cc := cX6_turned) (maxL := 5) (ret := (some .int)) (by decide) rfl ?_
  intro p e s m args below meth c s₁ B hml hv
  obtain ⟨hargs, -⟩ := hv
  have hx := B.exec
  have hb := B.bytes
  have hr := B.returns
  have hts := atoms_spec (ws := wsX6_turned) B.pre
  have hown : s.vm.findClass RX6 = some m.cls := findClass_of_methodNamed B.named
  have hlocks := B.notSynchronized
  have hl := lv_entry ([.int (nI n), .int (nI x), .int (nI y), .int (nI x2), .int (nI y2)]) (n := 5) (Nat.le_of_ble_eq_true rfl)
  refine W.eq (g2 := F0 m 0 (lg_sl ([.int (nI n), .int (nI x), .int (nI y), .int (nI x2), .int (nI y2)]) ++ List.replicate (5 - (lg_sl ([.int (nI n), .int (nI x), .int (nI y), .int (nI x2), .int (nI y2)])).length) Slot.unset).toArray []) (by rw [hargs]; exact lg_entry_eq _ _ _) ?_
  generalize (lg_sl ([.int (nI n), .int (nI x), .int (nI y), .int (nI x2), .int (nI y2)]) ++ List.replicate (5 - (lg_sl ([.int (nI n), .int (nI x), .int (nI y), .int (nI x2), .int (nI y2)])).length) Slot.unset).toArray = ls at hl ⊢
  have hl : lv_has ls 5 [(0, .int (nI n)), (1, .int (nI x)), (2, .int (nI y)), (3, .int (nI x2)), (4, .int (nI y2))] := hl
  refine lv_iload_n hx hb dX6_turned_0 rfl (lv_at hl 0 rfl) ?_
  refine lv_iload_n hx hb dX6_turned_1 rfl (lv_at hl 1 rfl) ?_
  refine lv_iload_n hx hb dX6_turned_2 rfl (lv_at hl 2 rfl) ?_
  refine z_ci (va_runS (As := [.int (nI x), .int (nI y)]) (rest := [.int (nI n)]) ⟨hx, hb, hml, hown, hts⟩ (c_X6_coin l D x y (by omega) (by omega)) (va_cwS 2 hts gX6_turned_X6_coin rfl rfl rfl (by decide +kernel) ⟨Nat.le_of_ble_eq_true rfl, Nat.le_of_ble_eq_true rfl⟩) ⟨z_fb0, fun U hU hW => ⟨rfl, trivial⟩⟩ rfl rfl hl.1 rfl (lv_room (Nat.le_of_ble_eq_true rfl)) dX6_turned_3 ⟨Nat.le_of_ble_eq_true rfl, Nat.le_of_ble_eq_true rfl⟩) (fun r3 e3 => ?_)
  subst e3
  have hpw3 := pow_lt16 (k := 4 * x + y) (by omega)
  refine z_xor hx hb dX6_turned_6 ?_
  refine lv_iload_n hx hb dX6_turned_7 rfl (lv_at hl 3 rfl) ?_
  refine lv_iload_n hx hb dX6_turned_8 rfl (lv_at hl 2 rfl) ?_
  refine z_ci (va_runS (As := [.int (nI x2), .int (nI y)]) (rest := [.int (nI (n ^^^ (1 * 2 ^ (4 * x + y))))]) ⟨hx, hb, hml, hown, hts⟩ (c_X6_coin l D x2 y (by omega) (by omega)) (va_cwS 2 hts gX6_turned_X6_coin rfl rfl rfl (by decide +kernel) ⟨Nat.le_of_ble_eq_true rfl, Nat.le_of_ble_eq_true rfl⟩) ⟨z_fb0, fun U hU hW => ⟨rfl, trivial⟩⟩ rfl rfl hl.1 rfl (lv_room (Nat.le_of_ble_eq_true rfl)) dX6_turned_9 ⟨Nat.le_of_ble_eq_true rfl, Nat.le_of_ble_eq_true rfl⟩) (fun r9 e9 => ?_)
  subst e9
  have hpw9 := pow_lt16 (k := 4 * x2 + y) (by omega)
  refine z_xor hx hb dX6_turned_12 ?_
  refine lv_iload_n hx hb dX6_turned_13 rfl (lv_at hl 1 rfl) ?_
  refine lv_iload hx hb dX6_turned_14 (lv_at hl 4 rfl) ?_
  refine z_ci (va_runS (As := [.int (nI x), .int (nI y2)]) (rest := [.int (nI ((n ^^^ (1 * 2 ^ (4 * x + y))) ^^^ (1 * 2 ^ (4 * x2 + y))))]) ⟨hx, hb, hml, hown, hts⟩ (c_X6_coin l D x y2 (by omega) (by omega)) (va_cwS 2 hts gX6_turned_X6_coin rfl rfl rfl (by decide +kernel) ⟨Nat.le_of_ble_eq_true rfl, Nat.le_of_ble_eq_true rfl⟩) ⟨z_fb0, fun U hU hW => ⟨rfl, trivial⟩⟩ rfl rfl hl.1 rfl (lv_room (Nat.le_of_ble_eq_true rfl)) dX6_turned_16 ⟨Nat.le_of_ble_eq_true rfl, Nat.le_of_ble_eq_true rfl⟩) (fun r16 e16 => ?_)
  subst e16
  have hpw16 := pow_lt16 (k := 4 * x + y2) (by omega)
  refine z_xor hx hb dX6_turned_19 ?_
  refine lv_iload_n hx hb dX6_turned_20 rfl (lv_at hl 3 rfl) ?_
  refine lv_iload hx hb dX6_turned_21 (lv_at hl 4 rfl) ?_
  refine z_ci (va_runS (As := [.int (nI x2), .int (nI y2)]) (rest := [.int (nI (((n ^^^ (1 * 2 ^ (4 * x + y))) ^^^ (1 * 2 ^ (4 * x2 + y))) ^^^ (1 * 2 ^ (4 * x + y2))))]) ⟨hx, hb, hml, hown, hts⟩ (c_X6_coin l D x2 y2 (by omega) (by omega)) (va_cwS 2 hts gX6_turned_X6_coin rfl rfl rfl (by decide +kernel) ⟨Nat.le_of_ble_eq_true rfl, Nat.le_of_ble_eq_true rfl⟩) ⟨z_fb0, fun U hU hW => ⟨rfl, trivial⟩⟩ rfl rfl hl.1 rfl (lv_room (Nat.le_of_ble_eq_true rfl)) dX6_turned_23 ⟨Nat.le_of_ble_eq_true rfl, Nat.le_of_ble_eq_true rfl⟩) (fun r23 e23 => ?_)
  subst e23
  have hpw23 := pow_lt16 (k := 4 * x2 + y2) (by omega)
  refine z_xor hx hb dX6_turned_26 ?_
  exact W.iret hx hb hr (fun t ht _ => ⟨_, rfl, (by simp only [trn, Nat.one_mul]), ht⟩) (fun _ h => nomatch h) dX6_turned_27
abbrev rm_c_X6_turn_ok : Room := { frames := 2, cells := 0, slots := 0, locals := 43 }
abbrev q_c_X6_turn_ok (D : va_G) (sz : Nat) (mo : Nat) (ra : Nat) (ca : Nat) (ha : Nat) (ba : Nat) (wa : Nat) (kp : Nat) (hd : Nat) (th : Nat) (x : Nat) (y : Nat) : Array Value → State → Outcome → State → Prop := va_Qi (fun r (_ : Unit) => r = (bI ((hd ^^^ 1 * 2 ^ (4 * x + y)).testBit (4 * x + y)))) (fun (_ : Unit) t => va_P D vwCl [(mo, .inr (8, [.int (nI 0), .ref ra, .ref ca, .ref ha, .int (nI kp), .ref ba, .int (nI (hd ^^^ 1 * 2 ^ (4 * x + y))), .ref wa]))] t.heap ∧ va_K D vwCl [] t ∧ va_D (va_A [(mo, .inr (8, [.int (nI th), .ref ra, .ref ca, .ref ha, .int (nI kp), .ref ba, .int (nI hd), .ref wa]))] sz) [(mo, .inr (8, [.int (nI 0), .ref ra, .ref ca, .ref ha, .int (nI kp), .ref ba, .int (nI (hd ^^^ 1 * 2 ^ (4 * x + y))), .ref wa]))]) (va_A [(mo, .inr (8, [.int (nI th), .ref ra, .ref ca, .ref ha, .int (nI kp), .ref ba, .int (nI hd), .ref wa]))] sz)
set_option maxHeartbeats 4000000 in
set_option maxRecDepth 100000 in
theorem c_X6_turn_ok (l : Launch) (D : va_G) (sz : Nat) (mo : Nat) (ra : Nat) (ca : Nat) (ha : Nat) (ba : Nat) (wa : Nat) (kp : Nat) (hd : Nat) (th : Nat) (x : Nat) (y : Nat) (hx4 : x < 4) (hy4 : y < 4) (hhd : hd < 65536) : Met l yX6_turn wsX6_turn rm_c_X6_turn_ok (va_Pc [.ref mo, .int (nI x), .int (nI y)] (fun U => U.heap.size = sz ∧ va_P D vwCl [(mo, .inr (8, [.int (nI th), .ref ra, .ref ca, .ref ha, .int (nI kp), .ref ba, .int (nI hd), .ref wa]))] U.heap ∧ va_K D vwCl [] U ∧ va_D (fun _ => True) [(mo, .inr (8, [.int (nI th), .ref ra, .ref ca, .ref ha, .int (nI kp), .ref ba, .int (nI hd), .ref wa]))])) (q_c_X6_turn_ok D sz mo ra ca ha ba wa kp hd th x y) 0 0 (va_A [(mo, .inr (8, [.int (nI th), .ref ra, .ref ca, .ref ha, .int (nI kp), .ref ba, .int (nI hd), .ref wa]))] sz) := by
  refine Met.ofW (cc := cX6_turn) (maxL := 3) (ret := (some .boolean)) (by decide) rfl ?_
  intro p e s m args below meth c s₁ B hml hv
  obtain ⟨hargs, hsz, hP, hK, hD0⟩ := hv
  have hx := B.exec
  have hb := B.bytes
  have hr := B.returns
  have hts := atoms_spec (ws := wsX6_turn) B.pre
  have hown : s.vm.findClass RX6 = some m.cls := findClass_of_methodNamed B.named
  have hlocks := B.notSynchronized
  subst hsz
  have hD := hD0.self (sz := s.heap.size)
  generalize hAe : va_A [(mo, .inr (8, [.int (nI th), .ref ra, .ref ca, .ref ha, .int (nI kp), .ref ba, .int (nI hd), .ref wa]))] s.heap.size = A at hD ⊢
  have hA : ∀ q : Nat, s.heap.size ≤ q → A q := fun q h => by rw [← hAe]; exact Or.inr h
  have hS : va_S A s.heap s.heap [] := va_S.rf
  have hl := lv_entry ([.ref mo, .int (nI x), .int (nI y)]) (n := 3) (Nat.le_of_ble_eq_true rfl)
  refine W.eq (g2 := F0 m 0 (lg_sl ([.ref mo, .int (nI x), .int (nI y)]) ++ List.replicate (3 - (lg_sl ([.ref mo, .int (nI x), .int (nI y)])).length) Slot.unset).toArray []) (by rw [hargs]; exact lg_entry_eq _ _ _) ?_
  generalize (lg_sl ([.ref mo, .int (nI x), .int (nI y)]) ++ List.replicate (3 - (lg_sl ([.ref mo, .int (nI x), .int (nI y)])).length) Slot.unset).toArray = ls at hl ⊢
  have hl : lv_has ls 3 [(0, .ref mo), (1, .int (nI x)), (2, .int (nI y))] := hl
  refine lv_aload_n hx hb dX6_turn_0 rfl (lv_at hl 0 rfl) ?_
  refine lv_iconst (v := nI 0) hx hb dX6_turn_1 zki_0 ?_
  refine va_put (D := D) (ci := 8) (v := .int (nI 0)) (ty := .int) (C := RX6) (T := TX6) (N := 8) hx hb hts nX6_turn_inX6 tyX6 tyX6_ok nmX6 hown hK hP hD hS 0 rfl rfl 0 (by decide) (hts (.fieldLink RX6 26 "GamefieldModel" "thrown" "I") (by decide +kernel)) (fun _ h9 => h9) rfl (by decide +kernel) rfl rfl (Nat.le_of_ble_eq_true rfl) dX6_turn_2 (fun H locs hP hD hS => ?_)
  have hP : va_P D vwCl [(mo, .inr (8, [.int (nI 0), .ref ra, .ref ca, .ref ha, .int (nI kp), .ref ba, .int (nI hd), .ref wa]))] H := hP
  have hD : va_D A [(mo, .inr (8, [.int (nI 0), .ref ra, .ref ca, .ref ha, .int (nI kp), .ref ba, .int (nI hd), .ref wa]))] := hD
  refine lv_aload_n hx hb dX6_turn_5 rfl (lv_at hl 0 rfl) ?_
  refine lv_iload_n hx hb dX6_turn_6 rfl (lv_at hl 1 rfl) ?_
  refine lv_iload_n hx hb dX6_turn_7 rfl (lv_at hl 2 rfl) ?_
  refine z_ci (va_runS (As := [.int (nI x), .int (nI y)]) (rest := [.ref mo]) ⟨hx, hb, hml, hown, hts⟩ (c_X6_isPlace_ok l D x y (by omega) (by omega)) (va_cwS 2 hts gX6_turn_X6_isPlace rfl rfl rfl (by decide +kernel) ⟨Nat.le_of_ble_eq_true rfl, Nat.le_of_ble_eq_true rfl⟩) ⟨z_fb0, fun U hU hW => ⟨rfl, trivial⟩⟩ rfl rfl hl.1 rfl (lv_room (Nat.le_of_ble_eq_true rfl)) dX6_turn_8 ⟨Nat.le_of_ble_eq_true rfl, Nat.le_of_ble_eq_true rfl⟩) (fun r8 e8 => ?_)
  subst e8
  refine z_bne (tgt := 18) hx hb dX6_turn_11 (by decide) (fun c_11 => ?_) (fun c_11 => absurd c_11 (by decide))
  refine lv_iconst (v := nI 0) hx hb dX6_turn_18 zki_0 ?_
  refine lv_iconst (v := nI 1) hx hb dX6_turn_19 zki_1 ?_
  have hPc := hP.sub (ws' := [(mo, .inr (8, [.int (nI 0), .ref ra, .ref ca, .ref ha, .int (nI kp), .ref ba, .int (nI hd), .ref wa]))]) [0] rfl
  have hDc := hD.sub (ws' := [(mo, .inr (8, [.int (nI 0), .ref ra, .ref ca, .ref ha, .int (nI kp), .ref ba, .int (nI hd), .ref wa]))]) [0] (by decide) rfl
  have hKc := hK.sub (tys' := []) [] rfl
  have hFc := va_free (wc := [(mo, .inr (8, [.int (nI 0), .ref ra, .ref ca, .ref ha, .int (nI kp), .ref ba, .int (nI hd), .ref wa]))]) hD hS hA [0] rfl
  refine va_calli (va_runV (As := [.int (nI 0), .int (nI 1)]) (rest := []) ⟨hx, hb, hml, hown, hts⟩ (c_X6_fails_false l D H.size mo ra ca ha ba wa kp hd 1 (by omega) (by omega)) (cwV 2 hts gX6_turn_X6_fails rfl rfl rfl (by decide +kernel) ⟨Nat.le_of_ble_eq_true rfl, Nat.le_of_ble_eq_true rfl⟩) ⟨(z_fb2), va_recv hK hP (ci := 8) (q0 := 0) rfl rfl, fun U hU hW => ⟨rfl, by rw [hU], by rw [hU]; exact hPc, va_K.moved hW.alike hKc, hDc.weaken (fun _ _ _ _ => trivial)⟩⟩ rfl rfl hl.1 rfl (lv_room (Nat.le_of_ble_eq_true rfl)) dX6_turn_20 ⟨Nat.le_of_ble_eq_true rfl, Nat.le_of_ble_eq_true rfl⟩) hS (fun q _ h => hFc q h) hFc (fun r20 u20 t H locs ht hvm e20 hB hz1 hk1 hS => ?_)
  obtain ⟨hP1, hK1, hD1⟩ := hB
  rw [ht] at hP1
  obtain ⟨hP, hD⟩ := va_join (wr := []) (w1 := [(mo, .inr (8, [.int (nI 0), .ref ra, .ref ca, .ref ha, .int (nI kp), .ref ba, .int (nI hd), .ref wa]))]) hP hD [0] [] rfl rfl (by decide) (by decide) hk1 hFc hP1 hD1
  have hP : va_P D vwCl [(mo, .inr (8, [.int (nI 0), .ref ra, .ref ca, .ref ha, .int (nI kp), .ref ba, .int (nI hd), .ref wa]))] H := hP
  have hD : va_D A [(mo, .inr (8, [.int (nI 0), .ref ra, .ref ca, .ref ha, .int (nI kp), .ref ba, .int (nI hd), .ref wa]))] := hD
  refine W.widen (k := 0) (n := 0) (Nat.le_of_ble_eq_true rfl) (Nat.le_of_ble_eq_true rfl) ?_
  subst e20
  refine z_beq (tgt := 28) hx hb dX6_turn_23 (by decide) (fun c_23 => ?_) (fun c_23 => absurd c_23 (by decide))
  refine lv_aload_n hx hb dX6_turn_28 rfl (lv_at hl 0 rfl) ?_
  refine lv_aload_n hx hb dX6_turn_29 rfl (lv_at hl 0 rfl) ?_
  refine va_get (D := D) (ci := 8) (v := .int (nI hd)) (C := RX6) (T := TX6) (N := 8) hx hb hts nX6_turn_inX6 hown hK hP 0 rfl rfl 6 (by decide) (hts (.fieldLink RX6 111 "GamefieldModel" "board" "I") (by decide +kernel)) (fun _ h9 => h9) rfl dX6_turn_30 ?_
  refine lv_iload_n hx hb dX6_turn_33 rfl (lv_at hl 1 rfl) ?_
  refine lv_iload_n hx hb dX6_turn_34 rfl (lv_at hl 2 rfl) ?_
  refine z_ci (va_runS (As := [.int (nI x), .int (nI y)]) (rest := [.int (nI hd), .ref mo]) ⟨hx, hb, hml, hown, hts⟩ (c_X6_coin l D x y (by omega) (by omega)) (va_cwS 2 hts gX6_turn_X6_coin rfl rfl rfl (by decide +kernel) ⟨Nat.le_of_ble_eq_true rfl, Nat.le_of_ble_eq_true rfl⟩) ⟨z_fb0, fun U hU hW => ⟨rfl, trivial⟩⟩ rfl rfl hl.1 rfl (lv_room (Nat.le_of_ble_eq_true rfl)) dX6_turn_35 ⟨Nat.le_of_ble_eq_true rfl, Nat.le_of_ble_eq_true rfl⟩) (fun r35 e35 => ?_)
  subst e35
  have hpw35 := pow_lt16 (k := 4 * x + y) (by omega)
  refine z_xor hx hb dX6_turn_38 ?_
  have hh39 : hd ^^^ 1 * 2 ^ (4 * x + y) < 65536 := by rw [Nat.one_mul]; exact zx16 hhd (pow_lt16 (by omega))
  refine va_put (D := D) (ci := 8) (v := .int (nI (hd ^^^ (1 * 2 ^ (4 * x + y))))) (ty := .int) (C := RX6) (T := TX6) (N := 8) hx hb hts nX6_turn_inX6 tyX6 tyX6_ok nmX6 hown hK hP hD hS 0 rfl rfl 6 (by decide) (hts (.fieldLink RX6 111 "GamefieldModel" "board" "I") (by decide +kernel)) (fun _ h9 => h9) rfl (by decide +kernel) rfl rfl (Nat.le_of_ble_eq_true rfl) dX6_turn_39 (fun H locs hP hD hS => ?_)
  have hP : va_P D vwCl [(mo, .inr (8, [.int (nI 0), .ref ra, .ref ca, .ref ha, .int (nI kp), .ref ba, .int (nI (hd ^^^ (1 * 2 ^ (4 * x + y)))), .ref wa]))] H := hP
  have hD : va_D A [(mo, .inr (8, [.int (nI 0), .ref ra, .ref ca, .ref ha, .int (nI kp), .ref ba, .int (nI (hd ^^^ (1 * 2 ^ (4 * x + y)))), .ref wa]))] := hD
  refine lv_aload_n hx hb dX6_turn_42 rfl (lv_at hl 0 rfl) ?_
  refine va_get (D := D) (ci := 8) (v := .int (nI (hd ^^^ (1 * 2 ^ (4 * x + y))))) (C := RX6) (T := TX6) (N := 8) hx hb hts nX6_turn_inX6 hown hK hP 0 rfl rfl 6 (by decide) (hts (.fieldLink RX6 111 "GamefieldModel" "board" "I") (by decide +kernel)) (fun _ h9 => h9) rfl dX6_turn_43 ?_
  refine lv_iload_n hx hb dX6_turn_46 rfl (lv_at hl 1 rfl) ?_
  refine lv_iload_n hx hb dX6_turn_47 rfl (lv_at hl 2 rfl) ?_
  refine z_ci (va_runS (As := [.int (nI (hd ^^^ (1 * 2 ^ (4 * x + y)))), .int (nI x), .int (nI y)]) (rest := []) ⟨hx, hb, hml, hown, hts⟩ (c_X6_isUp l D (hd ^^^ (1 * 2 ^ (4 * x + y))) x y (by omega) (by omega) (by omega)) (va_cwS 3 hts gX6_turn_X6_isUp rfl rfl rfl (by decide +kernel) ⟨Nat.le_of_ble_eq_true rfl, Nat.le_of_ble_eq_true rfl⟩) ⟨z_fb0, fun U hU hW => ⟨rfl, trivial⟩⟩ rfl rfl hl.1 rfl (lv_room (Nat.le_of_ble_eq_true rfl)) dX6_turn_48 ⟨Nat.le_of_ble_eq_true rfl, Nat.le_of_ble_eq_true rfl⟩) (fun r48 e48 => ?_)
  subst e48
  have hP9 := hP.sub (ws' := [(mo, .inr (8, [.int (nI 0), .ref ra, .ref ca, .ref ha, .int (nI kp), .ref ba, .int (nI (hd ^^^ (1 * 2 ^ (4 * x + y)))), .ref wa]))]) [0] rfl
  have hD9 := hD.sub (ws' := [(mo, .inr (8, [.int (nI 0), .ref ra, .ref ca, .ref ha, .int (nI kp), .ref ba, .int (nI (hd ^^^ (1 * 2 ^ (4 * x + y)))), .ref wa]))]) [0] (by decide) rfl
  have hK9 := hK.sub (tys' := []) [] rfl
  subst hAe
  refine W.widen (k := 0) (n := 0) (Nat.le_of_ble_eq_true rfl) (Nat.le_of_ble_eq_true rfl) ?_
  exact W.zret (ty := .boolean) hx hb hr (z_narB _) (fun t ht hW => ⟨⟨_, (), rfl, (rfl), by rw [ht]; exact hP9, va_K.moved hW.alike hK9, hD9⟩, hS.F ht⟩) hS.2.2 dX6_turn_51
abbrev rm_c_X6_turn_no : Room := { frames := 1, cells := 0, slots := 0, locals := 22 }
abbrev q_c_X6_turn_no (D : va_G) (sz : Nat) (mo : Nat) (ra : Nat) (ca : Nat) (ha : Nat) (ba : Nat) (wa : Nat) (kp : Nat) (hd : Nat) (th : Nat) (x0 : Int32) (x1 : Int32) : Array Value → State → Outcome → State → Prop := va_Qi (fun r (_ : Unit) => r = (bI false)) (fun (_ : Unit) t => va_P D vwCl [(mo, .inr (8, [.int (nI 1), .ref ra, .ref ca, .ref ha, .int (nI kp), .ref ba, .int (nI hd), .ref wa]))] t.heap ∧ va_K D vwCl [] t ∧ va_D (va_A [(mo, .inr (8, [.int (nI th), .ref ra, .ref ca, .ref ha, .int (nI kp), .ref ba, .int (nI hd), .ref wa]))] sz) [(mo, .inr (8, [.int (nI 1), .ref ra, .ref ca, .ref ha, .int (nI kp), .ref ba, .int (nI hd), .ref wa]))]) (va_A [(mo, .inr (8, [.int (nI th), .ref ra, .ref ca, .ref ha, .int (nI kp), .ref ba, .int (nI hd), .ref wa]))] sz)
set_option maxHeartbeats 4000000 in
set_option maxRecDepth 100000 in
theorem c_X6_turn_no (l : Launch) (D : va_G) (sz : Nat) (mo : Nat) (ra : Nat) (ca : Nat) (ha : Nat) (ba : Nat) (wa : Nat) (kp : Nat) (hd : Nat) (th : Nat) (x0 : Int32) (x1 : Int32) (hno : (inN 4 x0 && inN 4 x1) = false) : Met l yX6_turn wsX6_turn rm_c_X6_turn_no (va_Pc [.ref mo, .int x0, .int x1] (fun U => U.heap.size = sz ∧ va_P D vwCl [(mo, .inr (8, [.int (nI th), .ref ra, .ref ca, .ref ha, .int (nI kp), .ref ba, .int (nI hd), .ref wa]))] U.heap ∧ va_K D vwCl [] U ∧ va_D (fun _ => True) [(mo, .inr (8, [.int (nI th), .ref ra, .ref ca, .ref ha, .int (nI kp), .ref ba, .int (nI hd), .ref wa]))])) (q_c_X6_turn_no D sz mo ra ca ha ba wa kp hd th x0 x1) 0 0 (va_A [(mo, .inr (8, [.int (nI th), .ref ra, .ref ca, .ref ha, .int (nI kp), .ref ba, .int (nI hd), .ref wa]))] sz) := by
  refine Met.ofW (cc := cX6_turn) (maxL := 3) (ret := (some .boolean)) (by decide) rfl ?_
  intro p e s m args below meth c s₁ B hml hv
  obtain ⟨hargs, hsz, hP, hK, hD0⟩ := hv
  have hx := B.exec
  have hb := B.bytes
  have hr := B.returns
  have hts := atoms_spec (ws := wsX6_turn) B.pre
  have hown : s.vm.findClass RX6 = some m.cls := findClass_of_methodNamed B.named
  have hlocks := B.notSynchronized
  subst hsz
  have hD := hD0.self (sz := s.heap.size)
  generalize hAe : va_A [(mo, .inr (8, [.int (nI th), .ref ra, .ref ca, .ref ha, .int (nI kp), .ref ba, .int (nI hd), .ref wa]))] s.heap.size = A at hD ⊢
  have hA : ∀ q : Nat, s.heap.size ≤ q → A q := fun q h => by rw [← hAe]; exact Or.inr h
  have hS : va_S A s.heap s.heap [] := va_S.rf
  have hl := lv_entry ([.ref mo, .int x0, .int x1]) (n := 3) (Nat.le_of_ble_eq_true rfl)
  refine W.eq (g2 := F0 m 0 (lg_sl ([.ref mo, .int x0, .int x1]) ++ List.replicate (3 - (lg_sl ([.ref mo, .int x0, .int x1])).length) Slot.unset).toArray []) (by rw [hargs]; exact lg_entry_eq _ _ _) ?_
  generalize (lg_sl ([.ref mo, .int x0, .int x1]) ++ List.replicate (3 - (lg_sl ([.ref mo, .int x0, .int x1])).length) Slot.unset).toArray = ls at hl ⊢
  have hl : lv_has ls 3 [(0, .ref mo), (1, .int x0), (2, .int x1)] := hl
  refine lv_aload_n hx hb dX6_turn_0 rfl (lv_at hl 0 rfl) ?_
  refine lv_iconst (v := nI 0) hx hb dX6_turn_1 zki_0 ?_
  refine va_put (D := D) (ci := 8) (v := .int (nI 0)) (ty := .int) (C := RX6) (T := TX6) (N := 8) hx hb hts nX6_turn_inX6 tyX6 tyX6_ok nmX6 hown hK hP hD hS 0 rfl rfl 0 (by decide) (hts (.fieldLink RX6 26 "GamefieldModel" "thrown" "I") (by decide +kernel)) (fun _ h9 => h9) rfl (by decide +kernel) rfl rfl (Nat.le_of_ble_eq_true rfl) dX6_turn_2 (fun H locs hP hD hS => ?_)
  have hP : va_P D vwCl [(mo, .inr (8, [.int (nI 0), .ref ra, .ref ca, .ref ha, .int (nI kp), .ref ba, .int (nI hd), .ref wa]))] H := hP
  have hD : va_D A [(mo, .inr (8, [.int (nI 0), .ref ra, .ref ca, .ref ha, .int (nI kp), .ref ba, .int (nI hd), .ref wa]))] := hD
  refine lv_aload_n hx hb dX6_turn_5 rfl (lv_at hl 0 rfl) ?_
  refine lv_iload_n hx hb dX6_turn_6 rfl (lv_at hl 1 rfl) ?_
  refine lv_iload_n hx hb dX6_turn_7 rfl (lv_at hl 2 rfl) ?_
  refine z_ci (va_runS (As := [.int x0, .int x1]) (rest := [.ref mo]) ⟨hx, hb, hml, hown, hts⟩ (c_X6_isPlace l D x0 x1 ) (va_cwS 2 hts gX6_turn_X6_isPlace rfl rfl rfl (by decide +kernel) ⟨Nat.le_of_ble_eq_true rfl, Nat.le_of_ble_eq_true rfl⟩) ⟨z_fb0, fun U hU hW => ⟨rfl, trivial⟩⟩ rfl rfl hl.1 rfl (lv_room (Nat.le_of_ble_eq_true rfl)) dX6_turn_8 ⟨Nat.le_of_ble_eq_true rfl, Nat.le_of_ble_eq_true rfl⟩) (fun r8 e8 => ?_)
  subst e8
  refine z_bne (tgt := 18) hx hb dX6_turn_11 (by decide) (fun c_11 => absurd (hno.symm.trans c_11) (by decide)) (fun c_11 => ?_)
  refine lv_iconst (v := nI 1) hx hb dX6_turn_14 zki_1 ?_
  refine lv_goto (tgt := 19) hx hb dX6_turn_15 (by decide) ?_
  refine lv_iconst (v := nI 1) hx hb dX6_turn_19 zki_1 ?_
  have hPc := hP.sub (ws' := [(mo, .inr (8, [.int (nI 0), .ref ra, .ref ca, .ref ha, .int (nI kp), .ref ba, .int (nI hd), .ref wa]))]) [0] rfl
  have hDc := hD.sub (ws' := [(mo, .inr (8, [.int (nI 0), .ref ra, .ref ca, .ref ha, .int (nI kp), .ref ba, .int (nI hd), .ref wa]))]) [0] (by decide) rfl
  have hKc := hK.sub (tys' := []) [] rfl
  have hFc := va_free (wc := [(mo, .inr (8, [.int (nI 0), .ref ra, .ref ca, .ref ha, .int (nI kp), .ref ba, .int (nI hd), .ref wa]))]) hD hS hA [0] rfl
  refine va_calli (va_runV (As := [.int (nI 1), .int (nI 1)]) (rest := []) ⟨hx, hb, hml, hown, hts⟩ (c_X6_fails_true l D H.size mo ra ca ha ba wa kp hd 1 (by omega) (by omega)) (cwV 2 hts gX6_turn_X6_fails rfl rfl rfl (by decide +kernel) ⟨Nat.le_of_ble_eq_true rfl, Nat.le_of_ble_eq_true rfl⟩) ⟨(z_fb2), va_recv hK hP (ci := 8) (q0 := 0) rfl rfl, fun U hU hW => ⟨rfl, by rw [hU], by rw [hU]; exact hPc, va_K.moved hW.alike hKc, hDc.weaken (fun _ _ _ _ => trivial)⟩⟩ rfl rfl hl.1 rfl (lv_room (Nat.le_of_ble_eq_true rfl)) dX6_turn_20 ⟨Nat.le_of_ble_eq_true rfl, Nat.le_of_ble_eq_true rfl⟩) hS (fun q _ h => hFc q h) hFc (fun r20 u20 t H locs ht hvm e20 hB hz1 hk1 hS => ?_)
  obtain ⟨hP1, hK1, hD1⟩ := hB
  rw [ht] at hP1
  obtain ⟨hP, hD⟩ := va_join (wr := []) (w1 := [(mo, .inr (8, [.int (nI 1), .ref ra, .ref ca, .ref ha, .int (nI kp), .ref ba, .int (nI hd), .ref wa]))]) hP hD [0] [] rfl rfl (by decide) (by decide) hk1 hFc hP1 hD1
  have hP : va_P D vwCl [(mo, .inr (8, [.int (nI 1), .ref ra, .ref ca, .ref ha, .int (nI kp), .ref ba, .int (nI hd), .ref wa]))] H := hP
  have hD : va_D A [(mo, .inr (8, [.int (nI 1), .ref ra, .ref ca, .ref ha, .int (nI kp), .ref ba, .int (nI hd), .ref wa]))] := hD
  refine W.widen (k := 0) (n := 0) (Nat.le_of_ble_eq_true rfl) (Nat.le_of_ble_eq_true rfl) ?_
  subst e20
  refine z_beq (tgt := 28) hx hb dX6_turn_23 (by decide) (fun c_23 => absurd c_23 (by decide)) (fun c_23 => ?_)
  refine lv_iconst (v := nI 0) hx hb dX6_turn_26 zki_0 ?_
  have hP9 := hP.sub (ws' := [(mo, .inr (8, [.int (nI 1), .ref ra, .ref ca, .ref ha, .int (nI kp), .ref ba, .int (nI hd), .ref wa]))]) [0] rfl
  have hD9 := hD.sub (ws' := [(mo, .inr (8, [.int (nI 1), .ref ra, .ref ca, .ref ha, .int (nI kp), .ref ba, .int (nI hd), .ref wa]))]) [0] (by decide) rfl
  have hK9 := hK.sub (tys' := []) [] rfl
  subst hAe
  refine W.widen (k := 0) (n := 0) (Nat.le_of_ble_eq_true rfl) (Nat.le_of_ble_eq_true rfl) ?_
  refine zt (show nI 0 = bI false from rfl) ?_
  exact W.zret (ty := .boolean) hx hb hr (z_narB _) (fun t ht hW => ⟨⟨_, (), rfl, (rfl), by rw [ht]; exact hP9, va_K.moved hW.alike hK9, hD9⟩, hS.F ht⟩) hS.2.2 dX6_turn_27
