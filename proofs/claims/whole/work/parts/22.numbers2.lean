abbrev rm_c_X3_sumByTrying : Room := { frames := 2, cells := 0, slots := 0, locals := 42 }
abbrev q_c_X3_sumByTrying (D : va_G) (sz : Nat) (nm : Nat) (tT : Nat) (mS : Nat) (mH : Nat) (cZ : ClassId) (f : Nat → Bool) (u : Nat) (v : Nat) : Array Value → State → Outcome → State → Prop := va_Qi (fun r (_ : Unit) => r = (nI (ts u v))) (fun (_ : Unit) t => va_P D vwCl [(nm, .inr (5, [.ref tT, .ref mS])), (mS, .inr (4, [.ref mH])), (mH, .inl (cZ, 256, .inl (aB (ts2 u v v))))] t.heap ∧ va_K D vwCl [(cZ, .boolean)] t ∧ va_D (va_A [(nm, .inr (5, [.ref tT, .ref mS])), (mS, .inr (4, [.ref mH])), (mH, .inl (cZ, 256, .inl (aB f)))] sz) [(nm, .inr (5, [.ref tT, .ref mS])), (mS, .inr (4, [.ref mH])), (mH, .inl (cZ, 256, .inl (aB (ts2 u v v))))]) (va_A [(nm, .inr (5, [.ref tT, .ref mS])), (mS, .inr (4, [.ref mH])), (mH, .inl (cZ, 256, .inl (aB f)))] sz)
set_option maxHeartbeats 4000000 in
set_option maxRecDepth 100000 in
theorem c_X3_sumByTrying (l : Launch) (D : va_G) (sz : Nat) (nm : Nat) (tT : Nat) (mS : Nat) (mH : Nat) (cZ : ClassId) (f : Nat → Bool) (u : Nat) (v : Nat) (hu : u < 256) (hv8 : v < 256) : Met l yX3_sumByTrying wsX3_sumByTrying rm_c_X3_sumByTrying (va_Pc [.ref nm, .int (nI u), .int (nI v)] (fun U => U.heap.size = sz ∧ va_P D vwCl [(nm, .inr (5, [.ref tT, .ref mS])), (mS, .inr (4, [.ref mH])), (mH, .inl (cZ, 256, .inl (aB f)))] U.heap ∧ va_K D vwCl [(cZ, .boolean)] U ∧ va_D (fun _ => True) [(nm, .inr (5, [.ref tT, .ref mS])), (mS, .inr (4, [.ref mH])), (mH, .inl (cZ, 256, .inl (aB f)))])) (q_c_X3_sumByTrying D sz nm tT mS mH cZ f u v) 0 0 (va_A [(nm, .inr (5, [.ref tT, .ref mS])), (mS, .inr (4, [.ref mH])), (mH, .inl (cZ, 256, .inl (aB f)))] sz) := by
  refine Met.ofW (cc := cX3_sumByTrying) (maxL := 4) (ret := (some .int)) (by decide) rfl ?_
  intro p e s m args below meth c s₁ B hml hv
  obtain ⟨hargs, hsz, hP, hK, hD0⟩ := hv
  have hx := B.exec
  have hb := B.bytes
  have hr := B.returns
  have hts := atoms_spec (ws := wsX3_sumByTrying) B.pre
  have hown : s.vm.findClass RX3 = some m.cls := findClass_of_methodNamed B.named
  have hlocks := B.notSynchronized
  subst hsz
  have hD := hD0.self (sz := s.heap.size)
  generalize hAe : va_A [(nm, .inr (5, [.ref tT, .ref mS])), (mS, .inr (4, [.ref mH])), (mH, .inl (cZ, 256, .inl (aB f)))] s.heap.size = A at hD ⊢
  have hA : ∀ q : Nat, s.heap.size ≤ q → A q := fun q h => by rw [← hAe]; exact Or.inr h
  have hS : va_S A s.heap s.heap [] := va_S.rf
  have hl := lv_entry ([.ref nm, .int (nI u), .int (nI v)]) (n := 4) (Nat.le_of_ble_eq_true rfl)
  refine W.eq (g2 := F0 m 0 (lg_sl ([.ref nm, .int (nI u), .int (nI v)]) ++ List.replicate (4 - (lg_sl ([.ref nm, .int (nI u), .int (nI v)])).length) Slot.unset).toArray []) (by rw [hargs]; exact lg_entry_eq _ _ _) ?_
  generalize (lg_sl ([.ref nm, .int (nI u), .int (nI v)]) ++ List.replicate (4 - (lg_sl ([.ref nm, .int (nI u), .int (nI v)])).length) Slot.unset).toArray = ls at hl ⊢
  have hl : lv_has ls 4 [(0, .ref nm), (1, .int (nI u)), (2, .int (nI v))] := hl
  refine lv_aload_n hx hb dX3_sumByTrying_0 rfl (lv_at hl 0 rfl) ?_
  refine va_get (D := D) (ci := 5) (v := .ref mS) (C := RX3) (T := TX3) (N := 2) hx hb hts nX3_sumByTrying_inX3 hown hK hP 0 rfl rfl 1 (by decide) (hts (.fieldLink RX3 18 "Gamefield$Numbers" "made" "LGamefield$NumberSet;") (by decide +kernel)) (fun _ h9 => h9) rfl dX3_sumByTrying_1 ?_
  have hPc := hP.sub (ws' := [(mS, .inr (4, [.ref mH])), (mH, .inl (cZ, 256, .inl (aB f)))]) [1, 2] rfl
  have hDc := hD.sub (ws' := [(mS, .inr (4, [.ref mH])), (mH, .inl (cZ, 256, .inl (aB f)))]) [1, 2] (by decide) rfl
  have hKc := hK.sub (tys' := [(cZ, .boolean)]) [0] rfl
  have hFc := va_free (wc := [(mS, .inr (4, [.ref mH])), (mH, .inl (cZ, 256, .inl (aB f)))]) hD hS hA [1, 2] rfl
  refine va_callv (va_runV (As := []) (rest := []) ⟨hx, hb, hml, hown, hts⟩ (c_X2_empty l D s.heap.size mS mH cZ f ) (cwV 0 hts gX3_sumByTrying_X2_empty rfl rfl rfl (by decide +kernel) ⟨Nat.le_of_ble_eq_true rfl, Nat.le_of_ble_eq_true rfl⟩) ⟨(z_fb2), va_recv hK hP (ci := 4) (q0 := 1) rfl rfl, fun U hU hW => ⟨rfl, by rw [hU], by rw [hU]; exact hPc, va_K.moved hW.alike hKc, hDc.weaken (fun _ _ _ _ => trivial)⟩⟩ rfl rfl hl.1 rfl (lv_room (Nat.le_of_ble_eq_true rfl)) dX3_sumByTrying_4 ⟨Nat.le_of_ble_eq_true rfl, Nat.le_of_ble_eq_true rfl⟩) hS (fun q _ h => hFc q h) hFc (fun u4 t H locs ht hvm e4 hB hz1 hk1 hS => ?_)
  obtain ⟨hP1, hK1, hD1⟩ := hB
  rw [ht] at hP1
  obtain ⟨hP, hD⟩ := va_join (wr := [(nm, .inr (5, [.ref tT, .ref mS]))]) (w1 := [(mS, .inr (4, [.ref mH])), (mH, .inl (cZ, 256, .inl (aB (fun _ => false))))]) hP hD [1, 2] [0] rfl rfl (by decide) (by decide) hk1 hFc hP1 hD1
  have hP : va_P D vwCl [(nm, .inr (5, [.ref tT, .ref mS])), (mS, .inr (4, [.ref mH])), (mH, .inl (cZ, 256, .inl (aB (fun _ => false))))] H := hP
  have hD : va_D A [(nm, .inr (5, [.ref tT, .ref mS])), (mS, .inr (4, [.ref mH])), (mH, .inl (cZ, 256, .inl (aB (fun _ => false))))] := hD
  refine W.widen (k := 0) (n := 0) (Nat.le_of_ble_eq_true rfl) (Nat.le_of_ble_eq_true rfl) ?_
  refine lv_iconst (v := nI 0) hx hb dX3_sumByTrying_7 zki_0 ?_
  refine lv_istore_n (lv' := [(3, .int (nI 0)), (0, .ref nm), (1, .int (nI u)), (2, .int (nI v))]) hx hb dX3_sumByTrying_8 rfl hl (by decide) rfl (fun ls hl => ?_)
  have cut_9 : ∀ (n : Nat) (i : Nat) (hi : i ≤ u) (hn9 : u - i < n) (H : Heap) (locs : List Loc) (hP : va_P D vwCl [(nm, .inr (5, [.ref tT, .ref mS])), (mS, .inr (4, [.ref mH])), (mH, .inl (cZ, 256, .inl (aB (ts1 v i))))] H) (hD : va_D A [(nm, .inr (5, [.ref tT, .ref mS])), (mS, .inr (4, [.ref mH])), (mH, .inl (cZ, 256, .inl (aB (ts1 v i))))]) (hS : va_S A s.heap H locs) (ls : Array Slot) (hl : lv_has ls 4 [(0, .ref nm), (1, .int (nI u)), (2, .int (nI v)), (3, .int (nI i))]), W p l e (headSpec wsX3_sumByTrying rm_c_X3_sumByTrying).room s m args below meth c H locs 0 0 (MQ below (q_c_X3_sumByTrying D s.heap.size nm tT mS mH cZ f u v) args s 0 0 A) (F0 m 9 ls []) := by
    intro n
    induction n with
    | zero => intro i hi hn9; exact absurd hn9 (Nat.not_lt_zero _)
    | succ n ih_9 =>
      intro i hi hn9 H locs hP hD hS ls hl
      refine lv_iload_n hx hb dX3_sumByTrying_9 rfl (lv_at hl 3 rfl) ?_
      refine lv_iload_n hx hb dX3_sumByTrying_10 rfl (lv_at hl 1 rfl) ?_
      refine z_cge (tgt := 31) hx hb (by omega) (by omega) dX3_sumByTrying_11 (by decide) (fun c_11 => ?_) (fun c_11 => ?_)
      · refine lv_iconst (v := nI 0) hx hb dX3_sumByTrying_31 zki_0 ?_
        refine lv_istore_n (lv' := [(3, .int (nI 0)), (0, .ref nm), (1, .int (nI u)), (2, .int (nI v))]) hx hb dX3_sumByTrying_32 rfl hl (by decide) rfl (fun ls hl => ?_)
        have cut_33 : ∀ (n : Nat) (i : Nat) (hi : i ≤ v) (hn9 : v - i < n) (H : Heap) (locs : List Loc) (hP : va_P D vwCl [(nm, .inr (5, [.ref tT, .ref mS])), (mS, .inr (4, [.ref mH])), (mH, .inl (cZ, 256, .inl (aB (ts2 u v i))))] H) (hD : va_D A [(nm, .inr (5, [.ref tT, .ref mS])), (mS, .inr (4, [.ref mH])), (mH, .inl (cZ, 256, .inl (aB (ts2 u v i))))]) (hS : va_S A s.heap H locs) (ls : Array Slot) (hl : lv_has ls 4 [(0, .ref nm), (1, .int (nI u)), (2, .int (nI v)), (3, .int (nI i))]), W p l e (headSpec wsX3_sumByTrying rm_c_X3_sumByTrying).room s m args below meth c H locs 0 0 (MQ below (q_c_X3_sumByTrying D s.heap.size nm tT mS mH cZ f u v) args s 0 0 A) (F0 m 33 ls []) := by
          intro n
          induction n with
          | zero => intro i hi hn9; exact absurd hn9 (Nat.not_lt_zero _)
          | succ n ih_33 =>
            intro i hi hn9 H locs hP hD hS ls hl
            refine lv_iload_n hx hb dX3_sumByTrying_33 rfl (lv_at hl 3 rfl) ?_
            refine lv_iload_n hx hb dX3_sumByTrying_34 rfl (lv_at hl 2 rfl) ?_
            refine z_cge (tgt := 55) hx hb (by omega) (by omega) dX3_sumByTrying_35 (by decide) (fun c_35 => ?_) (fun c_35 => ?_)
            · have hiv : i = v := by omega
              refine lv_aload_n hx hb dX3_sumByTrying_55 rfl (lv_at hl 0 rfl) ?_
              refine va_get (D := D) (ci := 5) (v := .ref mS) (C := RX3) (T := TX3) (N := 2) hx hb hts nX3_sumByTrying_inX3 hown hK hP 0 rfl rfl 1 (by decide) (hts (.fieldLink RX3 18 "Gamefield$Numbers" "made" "LGamefield$NumberSet;") (by decide +kernel)) (fun _ h9 => h9) rfl dX3_sumByTrying_56 ?_
              refine z_ci (va_runV (As := []) (rest := []) ⟨hx, hb, hml, hown, hts⟩ (c_X2_leastAbsent l D mS mH cZ (ts2 u v i) ) (cwV 0 hts gX3_sumByTrying_X2_leastAbsent rfl rfl rfl (by decide +kernel) ⟨Nat.le_of_ble_eq_true rfl, Nat.le_of_ble_eq_true rfl⟩) ⟨(z_fb1), va_recv hK hP (ci := 4) (q0 := 1) rfl rfl, fun U hU hW => ⟨rfl, by rw [hU]; exact (hP.sub (ws' := [(mS, .inr (4, [.ref mH])), (mH, .inl (cZ, 256, .inl (aB (ts2 u v i))))]) [1, 2] rfl), va_K.moved hW.alike hK⟩⟩ rfl rfl hl.1 rfl (lv_room (Nat.le_of_ble_eq_true rfl)) dX3_sumByTrying_59 ⟨Nat.le_of_ble_eq_true rfl, Nat.le_of_ble_eq_true rfl⟩) (fun r59 e59 => ?_)
              subst e59
              have hP9 := hP.sub (ws' := [(nm, .inr (5, [.ref tT, .ref mS])), (mS, .inr (4, [.ref mH])), (mH, .inl (cZ, 256, .inl (aB (ts2 u v i))))]) [0, 1, 2] rfl
              have hD9 := hD.sub (ws' := [(nm, .inr (5, [.ref tT, .ref mS])), (mS, .inr (4, [.ref mH])), (mH, .inl (cZ, 256, .inl (aB (ts2 u v i))))]) [0, 1, 2] (by decide) rfl
              rw [hiv] at hP9 hD9
              have hK9 := hK.sub (tys' := [(cZ, .boolean)]) [0] rfl
              subst hAe
              refine W.widen (k := 0) (n := 0) (Nat.le_of_ble_eq_true rfl) (Nat.le_of_ble_eq_true rfl) ?_
              exact W.iret hx hb hr (fun t ht hW => ⟨⟨_, (), rfl, (by rw [hiv]; rfl), by rw [ht]; exact hP9, va_K.moved hW.alike hK9, hD9⟩, hS.F ht⟩) hS.2.2 dX3_sumByTrying_62
            · refine lv_aload_n hx hb dX3_sumByTrying_38 rfl (lv_at hl 0 rfl) ?_
              refine va_get (D := D) (ci := 5) (v := .ref mS) (C := RX3) (T := TX3) (N := 2) hx hb hts nX3_sumByTrying_inX3 hown hK hP 0 rfl rfl 1 (by decide) (hts (.fieldLink RX3 18 "Gamefield$Numbers" "made" "LGamefield$NumberSet;") (by decide +kernel)) (fun _ h9 => h9) rfl dX3_sumByTrying_39 ?_
              refine lv_iload_n hx hb dX3_sumByTrying_42 rfl (lv_at hl 1 rfl) ?_
              refine lv_iload_n hx hb dX3_sumByTrying_43 rfl (lv_at hl 3 rfl) ?_
              refine z_xor hx hb dX3_sumByTrying_44 ?_
              have hPc := hP.sub (ws' := [(mS, .inr (4, [.ref mH])), (mH, .inl (cZ, 256, .inl (aB (ts2 u v i))))]) [1, 2] rfl
              have hDc := hD.sub (ws' := [(mS, .inr (4, [.ref mH])), (mH, .inl (cZ, 256, .inl (aB (ts2 u v i))))]) [1, 2] (by decide) rfl
              have hKc := hK.sub (tys' := [(cZ, .boolean)]) [0] rfl
              have hFc := va_free (wc := [(mS, .inr (4, [.ref mH])), (mH, .inl (cZ, 256, .inl (aB (ts2 u v i))))]) hD hS hA [1, 2] rfl
              refine va_calli (va_runV (As := [.int (nI (u ^^^ i))]) (rest := []) ⟨hx, hb, hml, hown, hts⟩ (c_X2_add l D H.size mS mH cZ (ts2 u v i) (u ^^^ i) (zx8 hu (by omega))) (cwV 1 hts gX3_sumByTrying_X2_add rfl rfl rfl (by decide +kernel) ⟨Nat.le_of_ble_eq_true rfl, Nat.le_of_ble_eq_true rfl⟩) ⟨(z_fb2), va_recv hK hP (ci := 4) (q0 := 1) rfl rfl, fun U hU hW => ⟨rfl, by rw [hU], by rw [hU]; exact hPc, va_K.moved hW.alike hKc, hDc.weaken (fun _ _ _ _ => trivial)⟩⟩ rfl rfl hl.1 rfl (lv_room (Nat.le_of_ble_eq_true rfl)) dX3_sumByTrying_45 ⟨Nat.le_of_ble_eq_true rfl, Nat.le_of_ble_eq_true rfl⟩) hS (fun q _ h => hFc q h) hFc (fun r45 u45 t H locs ht hvm e45 hB hz1 hk1 hS => ?_)
              obtain ⟨hP1, hK1, hD1⟩ := hB
              rw [ht] at hP1
              obtain ⟨hP, hD⟩ := va_join (wr := [(nm, .inr (5, [.ref tT, .ref mS]))]) (w1 := [(mS, .inr (4, [.ref mH])), (mH, .inl (cZ, 256, .inl (aB (va_up (ts2 u v i) (u ^^^ i) true))))]) hP hD [1, 2] [0] rfl rfl (by decide) (by decide) hk1 hFc hP1 hD1
              have hP : va_P D vwCl [(nm, .inr (5, [.ref tT, .ref mS])), (mS, .inr (4, [.ref mH])), (mH, .inl (cZ, 256, .inl (aB (va_up (ts2 u v i) (u ^^^ i) true))))] H := hP
              have hD : va_D A [(nm, .inr (5, [.ref tT, .ref mS])), (mS, .inr (4, [.ref mH])), (mH, .inl (cZ, 256, .inl (aB (va_up (ts2 u v i) (u ^^^ i) true))))] := hD
              refine W.widen (k := 0) (n := 0) (Nat.le_of_ble_eq_true rfl) (Nat.le_of_ble_eq_true rfl) ?_
              subst e45
              refine lv_pop hx hb dX3_sumByTrying_48 rfl ?_
              refine lv_iinc (v := (nI (i + 1))) (lv' := [(3, .int (nI (i + 1))), (0, .ref nm), (1, .int (nI u)), (2, .int (nI v))]) hx hb dX3_sumByTrying_49 hl (k := 3) rfl (z_inc i 1) (by decide) rfl (fun ls hl => ?_)
              refine lv_goto (tgt := 33) hx hb dX3_sumByTrying_52 (by decide) ?_
              have hP : va_P D vwCl [(nm, .inr (5, [.ref tT, .ref mS])), (mS, .inr (4, [.ref mH])), (mH, .inl (cZ, 256, .inl (aB (ts2 u v (i + 1)))))] H := Eq.mp (congrArg (fun z9 => va_P D vwCl [(nm, .inr (5, [.ref tT, .ref mS])), (mS, .inr (4, [.ref mH])), (mH, .inl (cZ, 256, .inl (aB z9)))] H) ((show va_up (ts2 u v i) (u ^^^ i) true = ts2 u v (i + 1) from rfl))) hP
              have hD : va_D A [(nm, .inr (5, [.ref tT, .ref mS])), (mS, .inr (4, [.ref mH])), (mH, .inl (cZ, 256, .inl (aB (ts2 u v (i + 1)))))] := Eq.mp (congrArg (fun z9 => va_D A [(nm, .inr (5, [.ref tT, .ref mS])), (mS, .inr (4, [.ref mH])), (mH, .inl (cZ, 256, .inl (aB z9)))]) ((show va_up (ts2 u v i) (u ^^^ i) true = ts2 u v (i + 1) from rfl))) hD
              exact ih_33 (i + 1) (by omega) (by omega) H locs hP hD hS ls (lv_sub hl [1, 2, 3, 0] rfl)
        have hP : va_P D vwCl [(nm, .inr (5, [.ref tT, .ref mS])), (mS, .inr (4, [.ref mH])), (mH, .inl (cZ, 256, .inl (aB (ts2 u v 0))))] H := Eq.mp (congrArg (fun z9 => va_P D vwCl [(nm, .inr (5, [.ref tT, .ref mS])), (mS, .inr (4, [.ref mH])), (mH, .inl (cZ, 256, .inl (aB z9)))] H) ((show ts1 v i = ts2 u v 0 from by rw [show i = u by omega]; rfl))) hP
        have hD : va_D A [(nm, .inr (5, [.ref tT, .ref mS])), (mS, .inr (4, [.ref mH])), (mH, .inl (cZ, 256, .inl (aB (ts2 u v 0))))] := Eq.mp (congrArg (fun z9 => va_D A [(nm, .inr (5, [.ref tT, .ref mS])), (mS, .inr (4, [.ref mH])), (mH, .inl (cZ, 256, .inl (aB z9)))]) ((show ts1 v i = ts2 u v 0 from by rw [show i = u by omega]; rfl))) hD
        exact cut_33 ((v - 0) + 1) 0 (by omega) (Nat.lt_succ_self _) H locs hP hD hS ls (lv_sub hl [1, 2, 3, 0] rfl)
      · refine lv_aload_n hx hb dX3_sumByTrying_14 rfl (lv_at hl 0 rfl) ?_
        refine va_get (D := D) (ci := 5) (v := .ref mS) (C := RX3) (T := TX3) (N := 2) hx hb hts nX3_sumByTrying_inX3 hown hK hP 0 rfl rfl 1 (by decide) (hts (.fieldLink RX3 18 "Gamefield$Numbers" "made" "LGamefield$NumberSet;") (by decide +kernel)) (fun _ h9 => h9) rfl dX3_sumByTrying_15 ?_
        refine lv_iload_n hx hb dX3_sumByTrying_18 rfl (lv_at hl 3 rfl) ?_
        refine lv_iload_n hx hb dX3_sumByTrying_19 rfl (lv_at hl 2 rfl) ?_
        refine z_xor hx hb dX3_sumByTrying_20 ?_
        have hPc := hP.sub (ws' := [(mS, .inr (4, [.ref mH])), (mH, .inl (cZ, 256, .inl (aB (ts1 v i))))]) [1, 2] rfl
        have hDc := hD.sub (ws' := [(mS, .inr (4, [.ref mH])), (mH, .inl (cZ, 256, .inl (aB (ts1 v i))))]) [1, 2] (by decide) rfl
        have hKc := hK.sub (tys' := [(cZ, .boolean)]) [0] rfl
        have hFc := va_free (wc := [(mS, .inr (4, [.ref mH])), (mH, .inl (cZ, 256, .inl (aB (ts1 v i))))]) hD hS hA [1, 2] rfl
        refine va_calli (va_runV (As := [.int (nI (i ^^^ v))]) (rest := []) ⟨hx, hb, hml, hown, hts⟩ (c_X2_add l D H.size mS mH cZ (ts1 v i) (i ^^^ v) (zx8 (by omega) hv8)) (cwV 1 hts gX3_sumByTrying_X2_add rfl rfl rfl (by decide +kernel) ⟨Nat.le_of_ble_eq_true rfl, Nat.le_of_ble_eq_true rfl⟩) ⟨(z_fb2), va_recv hK hP (ci := 4) (q0 := 1) rfl rfl, fun U hU hW => ⟨rfl, by rw [hU], by rw [hU]; exact hPc, va_K.moved hW.alike hKc, hDc.weaken (fun _ _ _ _ => trivial)⟩⟩ rfl rfl hl.1 rfl (lv_room (Nat.le_of_ble_eq_true rfl)) dX3_sumByTrying_21 ⟨Nat.le_of_ble_eq_true rfl, Nat.le_of_ble_eq_true rfl⟩) hS (fun q _ h => hFc q h) hFc (fun r21 u21 t H locs ht hvm e21 hB hz1 hk1 hS => ?_)
        obtain ⟨hP1, hK1, hD1⟩ := hB
        rw [ht] at hP1
        obtain ⟨hP, hD⟩ := va_join (wr := [(nm, .inr (5, [.ref tT, .ref mS]))]) (w1 := [(mS, .inr (4, [.ref mH])), (mH, .inl (cZ, 256, .inl (aB (va_up (ts1 v i) (i ^^^ v) true))))]) hP hD [1, 2] [0] rfl rfl (by decide) (by decide) hk1 hFc hP1 hD1
        have hP : va_P D vwCl [(nm, .inr (5, [.ref tT, .ref mS])), (mS, .inr (4, [.ref mH])), (mH, .inl (cZ, 256, .inl (aB (va_up (ts1 v i) (i ^^^ v) true))))] H := hP
        have hD : va_D A [(nm, .inr (5, [.ref tT, .ref mS])), (mS, .inr (4, [.ref mH])), (mH, .inl (cZ, 256, .inl (aB (va_up (ts1 v i) (i ^^^ v) true))))] := hD
        refine W.widen (k := 0) (n := 0) (Nat.le_of_ble_eq_true rfl) (Nat.le_of_ble_eq_true rfl) ?_
        subst e21
        refine lv_pop hx hb dX3_sumByTrying_24 rfl ?_
        refine lv_iinc (v := (nI (i + 1))) (lv' := [(3, .int (nI (i + 1))), (0, .ref nm), (1, .int (nI u)), (2, .int (nI v))]) hx hb dX3_sumByTrying_25 hl (k := 3) rfl (z_inc i 1) (by decide) rfl (fun ls hl => ?_)
        refine lv_goto (tgt := 9) hx hb dX3_sumByTrying_28 (by decide) ?_
        have hP : va_P D vwCl [(nm, .inr (5, [.ref tT, .ref mS])), (mS, .inr (4, [.ref mH])), (mH, .inl (cZ, 256, .inl (aB (ts1 v (i + 1)))))] H := Eq.mp (congrArg (fun z9 => va_P D vwCl [(nm, .inr (5, [.ref tT, .ref mS])), (mS, .inr (4, [.ref mH])), (mH, .inl (cZ, 256, .inl (aB z9)))] H) ((show va_up (ts1 v i) (i ^^^ v) true = ts1 v (i + 1) from rfl))) hP
        have hD : va_D A [(nm, .inr (5, [.ref tT, .ref mS])), (mS, .inr (4, [.ref mH])), (mH, .inl (cZ, 256, .inl (aB (ts1 v (i + 1)))))] := Eq.mp (congrArg (fun z9 => va_D A [(nm, .inr (5, [.ref tT, .ref mS])), (mS, .inr (4, [.ref mH])), (mH, .inl (cZ, 256, .inl (aB z9)))]) ((show va_up (ts1 v i) (i ^^^ v) true = ts1 v (i + 1) from rfl))) hD
        exact ih_9 (i + 1) (by omega) (by omega) H locs hP hD hS ls (lv_sub hl [1, 2, 3, 0] rfl)
  have hP : va_P D vwCl [(nm, .inr (5, [.ref tT, .ref mS])), (mS, .inr (4, [.ref mH])), (mH, .inl (cZ, 256, .inl (aB (ts1 v 0))))] H := Eq.mp (congrArg (fun z9 => va_P D vwCl [(nm, .inr (5, [.ref tT, .ref mS])), (mS, .inr (4, [.ref mH])), (mH, .inl (cZ, 256, .inl (aB z9)))] H) ((show (fun _ => false) = ts1 v 0 from rfl))) hP
  have hD : va_D A [(nm, .inr (5, [.ref tT, .ref mS])), (mS, .inr (4, [.ref mH])), (mH, .inl (cZ, 256, .inl (aB (ts1 v 0))))] := Eq.mp (congrArg (fun z9 => va_D A [(nm, .inr (5, [.ref tT, .ref mS])), (mS, .inr (4, [.ref mH])), (mH, .inl (cZ, 256, .inl (aB z9)))]) ((show (fun _ => false) = ts1 v 0 from rfl))) hD
  exact cut_9 ((u - 0) + 1) 0 (by omega) (Nat.lt_succ_self _) H locs hP hD hS ls (lv_sub hl [1, 2, 3, 0] rfl)
abbrev rm_c_X3_productByTrying : Room := { frames := 2, cells := 0, slots := 0, locals := 53 }
abbrev q_c_X3_productByTrying (D : va_G) (sz : Nat) (nm : Nat) (tT : Nat) (mS : Nat) (cI : ClassId) (mH : Nat) (cZ : ClassId) (f : Nat → Bool) (u : Nat) (v : Nat) : Array Value → State → Outcome → State → Prop := va_Qi (fun r (_ : Unit) => r = (nI (tp u v))) (fun (_ : Unit) t => va_P D vwCl [(nm, .inr (5, [.ref tT, .ref mS])), (tT, .inl (cI, 256, .inl (aN ztab))), (mS, .inr (4, [.ref mH])), (mH, .inl (cZ, 256, .inl (aB (tpi u v u))))] t.heap ∧ va_K D vwCl [(cI, .int), (cZ, .boolean)] t ∧ va_D (va_A [(nm, .inr (5, [.ref tT, .ref mS])), (tT, .inl (cI, 256, .inl (aN ztab))), (mS, .inr (4, [.ref mH])), (mH, .inl (cZ, 256, .inl (aB f)))] sz) [(nm, .inr (5, [.ref tT, .ref mS])), (tT, .inl (cI, 256, .inl (aN ztab))), (mS, .inr (4, [.ref mH])), (mH, .inl (cZ, 256, .inl (aB (tpi u v u))))]) (va_A [(nm, .inr (5, [.ref tT, .ref mS])), (tT, .inl (cI, 256, .inl (aN ztab))), (mS, .inr (4, [.ref mH])), (mH, .inl (cZ, 256, .inl (aB f)))] sz)
set_option maxHeartbeats 4000000 in
set_option maxRecDepth 100000 in
theorem c_X3_productByTrying (l : Launch) (D : va_G) (sz : Nat) (nm : Nat) (tT : Nat) (mS : Nat) (cI : ClassId) (mH : Nat) (cZ : ClassId) (f : Nat → Bool) (u : Nat) (v : Nat) (hu : u < 16) (hv8 : v < 16) : Met l yX3_productByTrying wsX3_productByTrying rm_c_X3_productByTrying (va_Pc [.ref nm, .int (nI u), .int (nI v)] (fun U => U.heap.size = sz ∧ va_P D vwCl [(nm, .inr (5, [.ref tT, .ref mS])), (tT, .inl (cI, 256, .inl (aN ztab))), (mS, .inr (4, [.ref mH])), (mH, .inl (cZ, 256, .inl (aB f)))] U.heap ∧ va_K D vwCl [(cI, .int), (cZ, .boolean)] U ∧ va_D (fun _ => True) [(nm, .inr (5, [.ref tT, .ref mS])), (tT, .inl (cI, 256, .inl (aN ztab))), (mS, .inr (4, [.ref mH])), (mH, .inl (cZ, 256, .inl (aB f)))])) (q_c_X3_productByTrying D sz nm tT mS cI mH cZ f u v) 0 0 (va_A [(nm, .inr (5, [.ref tT, .ref mS])), (tT, .inl (cI, 256, .inl (aN ztab))), (mS, .inr (4, [.ref mH])), (mH, .inl (cZ, 256, .inl (aB f)))] sz) := by
  refine Met.ofW (cc := cX3_productByTrying) (maxL := 5) (ret := (some .int)) (by decide) rfl ?_
  intro p e s m args below meth c s₁ B hml hv
  obtain ⟨hargs, hsz, hP, hK, hD0⟩ := hv
  have hx := B.exec
  have hb := B.bytes
  have hr := B.returns
  have hts := atoms_spec (ws := wsX3_productByTrying) B.pre
  have hown : s.vm.findClass RX3 = some m.cls := findClass_of_methodNamed B.named
  have hlocks := B.notSynchronized
  subst hsz
  have hD := hD0.self (sz := s.heap.size)
  generalize hAe : va_A [(nm, .inr (5, [.ref tT, .ref mS])), (tT, .inl (cI, 256, .inl (aN ztab))), (mS, .inr (4, [.ref mH])), (mH, .inl (cZ, 256, .inl (aB f)))] s.heap.size = A at hD ⊢
  have hA : ∀ q : Nat, s.heap.size ≤ q → A q := fun q h => by rw [← hAe]; exact Or.inr h
  have hS : va_S A s.heap s.heap [] := va_S.rf
  have hl := lv_entry ([.ref nm, .int (nI u), .int (nI v)]) (n := 5) (Nat.le_of_ble_eq_true rfl)
  refine W.eq (g2 := F0 m 0 (lg_sl ([.ref nm, .int (nI u), .int (nI v)]) ++ List.replicate (5 - (lg_sl ([.ref nm, .int (nI u), .int (nI v)])).length) Slot.unset).toArray []) (by rw [hargs]; exact lg_entry_eq _ _ _) ?_
  generalize (lg_sl ([.ref nm, .int (nI u), .int (nI v)]) ++ List.replicate (5 - (lg_sl ([.ref nm, .int (nI u), .int (nI v)])).length) Slot.unset).toArray = ls at hl ⊢
  have hl : lv_has ls 5 [(0, .ref nm), (1, .int (nI u)), (2, .int (nI v))] := hl
  refine lv_aload_n hx hb dX3_productByTrying_0 rfl (lv_at hl 0 rfl) ?_
  refine va_get (D := D) (ci := 5) (v := .ref mS) (C := RX3) (T := TX3) (N := 2) hx hb hts nX3_productByTrying_inX3 hown hK hP 0 rfl rfl 1 (by decide) (hts (.fieldLink RX3 18 "Gamefield$Numbers" "made" "LGamefield$NumberSet;") (by decide +kernel)) (fun _ h9 => h9) rfl dX3_productByTrying_1 ?_
  have hPc := hP.sub (ws' := [(mS, .inr (4, [.ref mH])), (mH, .inl (cZ, 256, .inl (aB f)))]) [2, 3] rfl
  have hDc := hD.sub (ws' := [(mS, .inr (4, [.ref mH])), (mH, .inl (cZ, 256, .inl (aB f)))]) [2, 3] (by decide) rfl
  have hKc := hK.sub (tys' := [(cZ, .boolean)]) [1] rfl
  have hFc := va_free (wc := [(mS, .inr (4, [.ref mH])), (mH, .inl (cZ, 256, .inl (aB f)))]) hD hS hA [2, 3] rfl
  refine va_callv (va_runV (As := []) (rest := []) ⟨hx, hb, hml, hown, hts⟩ (c_X2_empty l D s.heap.size mS mH cZ f ) (cwV 0 hts gX3_productByTrying_X2_empty rfl rfl rfl (by decide +kernel) ⟨Nat.le_of_ble_eq_true rfl, Nat.le_of_ble_eq_true rfl⟩) ⟨(z_fb2), va_recv hK hP (ci := 4) (q0 := 2) rfl rfl, fun U hU hW => ⟨rfl, by rw [hU], by rw [hU]; exact hPc, va_K.moved hW.alike hKc, hDc.weaken (fun _ _ _ _ => trivial)⟩⟩ rfl rfl hl.1 rfl (lv_room (Nat.le_of_ble_eq_true rfl)) dX3_productByTrying_4 ⟨Nat.le_of_ble_eq_true rfl, Nat.le_of_ble_eq_true rfl⟩) hS (fun q _ h => hFc q h) hFc (fun u4 t H locs ht hvm e4 hB hz1 hk1 hS => ?_)
  obtain ⟨hP1, hK1, hD1⟩ := hB
  rw [ht] at hP1
  obtain ⟨hP, hD⟩ := va_join (wr := [(nm, .inr (5, [.ref tT, .ref mS])), (tT, .inl (cI, 256, .inl (aN ztab)))]) (w1 := [(mS, .inr (4, [.ref mH])), (mH, .inl (cZ, 256, .inl (aB (fun _ => false))))]) hP hD [2, 3] [0, 1] rfl rfl (by decide) (by decide) hk1 hFc hP1 hD1
  have hP : va_P D vwCl [(nm, .inr (5, [.ref tT, .ref mS])), (tT, .inl (cI, 256, .inl (aN ztab))), (mS, .inr (4, [.ref mH])), (mH, .inl (cZ, 256, .inl (aB (fun _ => false))))] H := hP
  have hD : va_D A [(nm, .inr (5, [.ref tT, .ref mS])), (tT, .inl (cI, 256, .inl (aN ztab))), (mS, .inr (4, [.ref mH])), (mH, .inl (cZ, 256, .inl (aB (fun _ => false))))] := hD
  refine W.widen (k := 0) (n := 0) (Nat.le_of_ble_eq_true rfl) (Nat.le_of_ble_eq_true rfl) ?_
  refine lv_iconst (v := nI 0) hx hb dX3_productByTrying_7 zki_0 ?_
  refine lv_istore_n (lv' := [(3, .int (nI 0)), (0, .ref nm), (1, .int (nI u)), (2, .int (nI v))]) hx hb dX3_productByTrying_8 rfl hl (by decide) rfl (fun ls hl => ?_)
  have cut_9 : ∀ (n : Nat) (i : Nat) (hi : i ≤ u) (hn9 : u - i < n) (H : Heap) (locs : List Loc) (hP : va_P D vwCl [(nm, .inr (5, [.ref tT, .ref mS])), (tT, .inl (cI, 256, .inl (aN ztab))), (mS, .inr (4, [.ref mH])), (mH, .inl (cZ, 256, .inl (aB (tpi u v i))))] H) (hD : va_D A [(nm, .inr (5, [.ref tT, .ref mS])), (tT, .inl (cI, 256, .inl (aN ztab))), (mS, .inr (4, [.ref mH])), (mH, .inl (cZ, 256, .inl (aB (tpi u v i))))]) (hS : va_S A s.heap H locs) (ls : Array Slot) (hl : lv_has ls 5 [(0, .ref nm), (1, .int (nI u)), (2, .int (nI v)), (3, .int (nI i))]), W p l e (headSpec wsX3_productByTrying rm_c_X3_productByTrying).room s m args below meth c H locs 0 0 (MQ below (q_c_X3_productByTrying D s.heap.size nm tT mS cI mH cZ f u v) args s 0 0 A) (F0 m 9 ls []) := by
    intro n
    induction n with
    | zero => intro i hi hn9; exact absurd hn9 (Nat.not_lt_zero _)
    | succ n ih_9 =>
      intro i hi hn9 H locs hP hD hS ls hl
      refine lv_iload_n hx hb dX3_productByTrying_9 rfl (lv_at hl 3 rfl) ?_
      refine lv_iload_n hx hb dX3_productByTrying_10 rfl (lv_at hl 1 rfl) ?_
      refine z_cge (tgt := 65) hx hb (by omega) (by omega) dX3_productByTrying_11 (by decide) (fun c_11 => ?_) (fun c_11 => ?_)
      · have hiu : i = u := by omega
        refine lv_aload_n hx hb dX3_productByTrying_65 rfl (lv_at hl 0 rfl) ?_
        refine va_get (D := D) (ci := 5) (v := .ref mS) (C := RX3) (T := TX3) (N := 2) hx hb hts nX3_productByTrying_inX3 hown hK hP 0 rfl rfl 1 (by decide) (hts (.fieldLink RX3 18 "Gamefield$Numbers" "made" "LGamefield$NumberSet;") (by decide +kernel)) (fun _ h9 => h9) rfl dX3_productByTrying_66 ?_
        refine z_ci (va_runV (As := []) (rest := []) ⟨hx, hb, hml, hown, hts⟩ (c_X2_leastAbsent l D mS mH cZ (tpi u v i) ) (cwV 0 hts gX3_productByTrying_X2_leastAbsent rfl rfl rfl (by decide +kernel) ⟨Nat.le_of_ble_eq_true rfl, Nat.le_of_ble_eq_true rfl⟩) ⟨(z_fb1), va_recv hK hP (ci := 4) (q0 := 2) rfl rfl, fun U hU hW => ⟨rfl, by rw [hU]; exact (hP.sub (ws' := [(mS, .inr (4, [.ref mH])), (mH, .inl (cZ, 256, .inl (aB (tpi u v i))))]) [2, 3] rfl), va_K.moved hW.alike (hK.sub [1] rfl)⟩⟩ rfl rfl hl.1 rfl (lv_room (Nat.le_of_ble_eq_true rfl)) dX3_productByTrying_69 ⟨Nat.le_of_ble_eq_true rfl, Nat.le_of_ble_eq_true rfl⟩) (fun r69 e69 => ?_)
        subst e69
        have hP9 := hP.sub (ws' := [(nm, .inr (5, [.ref tT, .ref mS])), (tT, .inl (cI, 256, .inl (aN ztab))), (mS, .inr (4, [.ref mH])), (mH, .inl (cZ, 256, .inl (aB (tpi u v i))))]) [0, 1, 2, 3] rfl
        have hD9 := hD.sub (ws' := [(nm, .inr (5, [.ref tT, .ref mS])), (tT, .inl (cI, 256, .inl (aN ztab))), (mS, .inr (4, [.ref mH])), (mH, .inl (cZ, 256, .inl (aB (tpi u v i))))]) [0, 1, 2, 3] (by decide) rfl
        rw [hiu] at hP9 hD9
        have hK9 := hK.sub (tys' := [(cI, .int), (cZ, .boolean)]) [0, 1] rfl
        subst hAe
        refine W.widen (k := 0) (n := 0) (Nat.le_of_ble_eq_true rfl) (Nat.le_of_ble_eq_true rfl) ?_
        exact W.iret hx hb hr (fun t ht hW => ⟨⟨_, (), rfl, (by rw [hiu]; rfl), by rw [ht]; exact hP9, va_K.moved hW.alike hK9, hD9⟩, hS.F ht⟩) hS.2.2 dX3_productByTrying_72
      · refine lv_iconst (v := nI 0) hx hb dX3_productByTrying_14 zki_0 ?_
        refine lv_istore (lv' := [(4, .int (nI 0)), (0, .ref nm), (1, .int (nI u)), (2, .int (nI v)), (3, .int (nI i))]) hx hb dX3_productByTrying_15 hl (by decide) rfl (fun ls hl => ?_)
        have cut_17 : ∀ (n : Nat) (j : Nat) (hj : j ≤ v) (hn9 : v - j < n) (H : Heap) (locs : List Loc) (hP : va_P D vwCl [(nm, .inr (5, [.ref tT, .ref mS])), (tT, .inl (cI, 256, .inl (aN ztab))), (mS, .inr (4, [.ref mH])), (mH, .inl (cZ, 256, .inl (aB (tpj u v i (tpi u v i) j))))] H) (hD : va_D A [(nm, .inr (5, [.ref tT, .ref mS])), (tT, .inl (cI, 256, .inl (aN ztab))), (mS, .inr (4, [.ref mH])), (mH, .inl (cZ, 256, .inl (aB (tpj u v i (tpi u v i) j))))]) (hS : va_S A s.heap H locs) (ls : Array Slot) (hl : lv_has ls 5 [(0, .ref nm), (1, .int (nI u)), (2, .int (nI v)), (3, .int (nI i)), (4, .int (nI j))]), W p l e (headSpec wsX3_productByTrying rm_c_X3_productByTrying).room s m args below meth c H locs 0 0 (MQ below (q_c_X3_productByTrying D s.heap.size nm tT mS cI mH cZ f u v) args s 0 0 A) (F0 m 17 ls []) := by
          intro n
          induction n with
          | zero => intro j hj hn9; exact absurd hn9 (Nat.not_lt_zero _)
          | succ n ih_17 =>
            intro j hj hn9 H locs hP hD hS ls hl
            refine lv_iload hx hb dX3_productByTrying_17 (lv_at hl 4 rfl) ?_
            refine lv_iload_n hx hb dX3_productByTrying_19 rfl (lv_at hl 2 rfl) ?_
            refine z_cge (tgt := 59) hx hb (by omega) (by omega) dX3_productByTrying_20 (by decide) (fun c_20 => ?_) (fun c_20 => ?_)
            · refine lv_iinc (v := (nI (i + 1))) (lv' := [(3, .int (nI (i + 1))), (0, .ref nm), (1, .int (nI u)), (2, .int (nI v)), (4, .int (nI j))]) hx hb dX3_productByTrying_59 hl (k := 3) rfl (z_inc i 1) (by decide) rfl (fun ls hl => ?_)
              refine lv_goto (tgt := 9) hx hb dX3_productByTrying_62 (by decide) ?_
              have hP : va_P D vwCl [(nm, .inr (5, [.ref tT, .ref mS])), (tT, .inl (cI, 256, .inl (aN ztab))), (mS, .inr (4, [.ref mH])), (mH, .inl (cZ, 256, .inl (aB (tpi u v (i + 1)))))] H := Eq.mp (congrArg (fun z9 => va_P D vwCl [(nm, .inr (5, [.ref tT, .ref mS])), (tT, .inl (cI, 256, .inl (aN ztab))), (mS, .inr (4, [.ref mH])), (mH, .inl (cZ, 256, .inl (aB z9)))] H) ((show tpj u v i (tpi u v i) j = tpi u v (i + 1) from by rw [show j = v by omega]; rfl))) hP
              have hD : va_D A [(nm, .inr (5, [.ref tT, .ref mS])), (tT, .inl (cI, 256, .inl (aN ztab))), (mS, .inr (4, [.ref mH])), (mH, .inl (cZ, 256, .inl (aB (tpi u v (i + 1)))))] := Eq.mp (congrArg (fun z9 => va_D A [(nm, .inr (5, [.ref tT, .ref mS])), (tT, .inl (cI, 256, .inl (aN ztab))), (mS, .inr (4, [.ref mH])), (mH, .inl (cZ, 256, .inl (aB z9)))]) ((show tpj u v i (tpi u v i) j = tpi u v (i + 1) from by rw [show j = v by omega]; rfl))) hD
              exact ih_9 (i + 1) (by omega) (by omega) H locs hP hD hS ls (lv_sub hl [1, 2, 3, 0] rfl)
            · refine lv_aload_n hx hb dX3_productByTrying_23 rfl (lv_at hl 0 rfl) ?_
              refine va_get (D := D) (ci := 5) (v := .ref mS) (C := RX3) (T := TX3) (N := 2) hx hb hts nX3_productByTrying_inX3 hown hK hP 0 rfl rfl 1 (by decide) (hts (.fieldLink RX3 18 "Gamefield$Numbers" "made" "LGamefield$NumberSet;") (by decide +kernel)) (fun _ h9 => h9) rfl dX3_productByTrying_24 ?_
              refine lv_aload_n hx hb dX3_productByTrying_27 rfl (lv_at hl 0 rfl) ?_
              refine lv_iload_n hx hb dX3_productByTrying_28 rfl (lv_at hl 3 rfl) ?_
              refine lv_iload_n hx hb dX3_productByTrying_29 rfl (lv_at hl 2 rfl) ?_
              refine z_ci (va_runV (As := [.int (nI i), .int (nI v)]) (rest := [.ref mS]) ⟨hx, hb, hml, hown, hts⟩ (c_X3_productOf l D nm tT mS cI i v (by omega) (by omega)) (cwV 2 hts gX3_productByTrying_X3_productOf rfl rfl rfl (by decide +kernel) ⟨Nat.le_of_ble_eq_true rfl, Nat.le_of_ble_eq_true rfl⟩) ⟨(z_fb1), va_recv hK hP (ci := 5) (q0 := 0) rfl rfl, fun U hU hW => ⟨rfl, by rw [hU]; exact (hP.sub (ws' := [(nm, .inr (5, [.ref tT, .ref mS])), (tT, .inl (cI, 256, .inl (aN ztab)))]) [0, 1] rfl), va_K.moved hW.alike (hK.sub [0] rfl)⟩⟩ rfl rfl hl.1 rfl (lv_room (Nat.le_of_ble_eq_true rfl)) dX3_productByTrying_30 ⟨Nat.le_of_ble_eq_true rfl, Nat.le_of_ble_eq_true rfl⟩) (fun r30 e30 => ?_)
              subst e30
              have hn30 : np i v < 256 := np_lt (by omega) (by omega)
              refine lv_aload_n hx hb dX3_productByTrying_33 rfl (lv_at hl 0 rfl) ?_
              refine lv_iload_n hx hb dX3_productByTrying_34 rfl (lv_at hl 1 rfl) ?_
              refine lv_iload hx hb dX3_productByTrying_35 (lv_at hl 4 rfl) ?_
              refine z_ci (va_runV (As := [.int (nI u), .int (nI j)]) (rest := [.int (nI (np i v)), .ref mS]) ⟨hx, hb, hml, hown, hts⟩ (c_X3_productOf l D nm tT mS cI u j (by omega) (by omega)) (cwV 2 hts gX3_productByTrying_X3_productOf rfl rfl rfl (by decide +kernel) ⟨Nat.le_of_ble_eq_true rfl, Nat.le_of_ble_eq_true rfl⟩) ⟨(z_fb1), va_recv hK hP (ci := 5) (q0 := 0) rfl rfl, fun U hU hW => ⟨rfl, by rw [hU]; exact (hP.sub (ws' := [(nm, .inr (5, [.ref tT, .ref mS])), (tT, .inl (cI, 256, .inl (aN ztab)))]) [0, 1] rfl), va_K.moved hW.alike (hK.sub [0] rfl)⟩⟩ rfl rfl hl.1 rfl (lv_room (Nat.le_of_ble_eq_true rfl)) dX3_productByTrying_37 ⟨Nat.le_of_ble_eq_true rfl, Nat.le_of_ble_eq_true rfl⟩) (fun r37 e37 => ?_)
              subst e37
              have hn37 : np u j < 256 := np_lt (by omega) (by omega)
              refine z_xor hx hb dX3_productByTrying_40 ?_
              refine lv_aload_n hx hb dX3_productByTrying_41 rfl (lv_at hl 0 rfl) ?_
              refine lv_iload_n hx hb dX3_productByTrying_42 rfl (lv_at hl 3 rfl) ?_
              refine lv_iload hx hb dX3_productByTrying_43 (lv_at hl 4 rfl) ?_
              refine z_ci (va_runV (As := [.int (nI i), .int (nI j)]) (rest := [.int (nI ((np i v) ^^^ (np u j))), .ref mS]) ⟨hx, hb, hml, hown, hts⟩ (c_X3_productOf l D nm tT mS cI i j (by omega) (by omega)) (cwV 2 hts gX3_productByTrying_X3_productOf rfl rfl rfl (by decide +kernel) ⟨Nat.le_of_ble_eq_true rfl, Nat.le_of_ble_eq_true rfl⟩) ⟨(z_fb1), va_recv hK hP (ci := 5) (q0 := 0) rfl rfl, fun U hU hW => ⟨rfl, by rw [hU]; exact (hP.sub (ws' := [(nm, .inr (5, [.ref tT, .ref mS])), (tT, .inl (cI, 256, .inl (aN ztab)))]) [0, 1] rfl), va_K.moved hW.alike (hK.sub [0] rfl)⟩⟩ rfl rfl hl.1 rfl (lv_room (Nat.le_of_ble_eq_true rfl)) dX3_productByTrying_45 ⟨Nat.le_of_ble_eq_true rfl, Nat.le_of_ble_eq_true rfl⟩) (fun r45 e45 => ?_)
              subst e45
              have hn45 : np i j < 256 := np_lt (by omega) (by omega)
              refine z_xor hx hb dX3_productByTrying_48 ?_
              have hPc := hP.sub (ws' := [(mS, .inr (4, [.ref mH])), (mH, .inl (cZ, 256, .inl (aB (tpj u v i (tpi u v i) j))))]) [2, 3] rfl
              have hDc := hD.sub (ws' := [(mS, .inr (4, [.ref mH])), (mH, .inl (cZ, 256, .inl (aB (tpj u v i (tpi u v i) j))))]) [2, 3] (by decide) rfl
              have hKc := hK.sub (tys' := [(cZ, .boolean)]) [1] rfl
              have hFc := va_free (wc := [(mS, .inr (4, [.ref mH])), (mH, .inl (cZ, 256, .inl (aB (tpj u v i (tpi u v i) j))))]) hD hS hA [2, 3] rfl
              refine va_calli (va_runV (As := [.int (nI (((np i v) ^^^ (np u j)) ^^^ (np i j)))]) (rest := []) ⟨hx, hb, hml, hown, hts⟩ (c_X2_add l D H.size mS mH cZ (tpj u v i (tpi u v i) j) (((np i v) ^^^ (np u j)) ^^^ (np i j)) (zx8 (zx8 hn30 hn37) hn45)) (cwV 1 hts gX3_productByTrying_X2_add rfl rfl rfl (by decide +kernel) ⟨Nat.le_of_ble_eq_true rfl, Nat.le_of_ble_eq_true rfl⟩) ⟨(z_fb2), va_recv hK hP (ci := 4) (q0 := 2) rfl rfl, fun U hU hW => ⟨rfl, by rw [hU], by rw [hU]; exact hPc, va_K.moved hW.alike hKc, hDc.weaken (fun _ _ _ _ => trivial)⟩⟩ rfl rfl hl.1 rfl (lv_room (Nat.le_of_ble_eq_true rfl)) dX3_productByTrying_49 ⟨Nat.le_of_ble_eq_true rfl, Nat.le_of_ble_eq_true rfl⟩) hS (fun q _ h => hFc q h) hFc (fun r49 u49 t H locs ht hvm e49 hB hz1 hk1 hS => ?_)
              obtain ⟨hP1, hK1, hD1⟩ := hB
              rw [ht] at hP1
              obtain ⟨hP, hD⟩ := va_join (wr := [(nm, .inr (5, [.ref tT, .ref mS])), (tT, .inl (cI, 256, .inl (aN ztab)))]) (w1 := [(mS, .inr (4, [.ref mH])), (mH, .inl (cZ, 256, .inl (aB (va_up (tpj u v i (tpi u v i) j) (((np i v) ^^^ (np u j)) ^^^ (np i j)) true))))]) hP hD [2, 3] [0, 1] rfl rfl (by decide) (by decide) hk1 hFc hP1 hD1
              have hP : va_P D vwCl [(nm, .inr (5, [.ref tT, .ref mS])), (tT, .inl (cI, 256, .inl (aN ztab))), (mS, .inr (4, [.ref mH])), (mH, .inl (cZ, 256, .inl (aB (va_up (tpj u v i (tpi u v i) j) (((np i v) ^^^ (np u j)) ^^^ (np i j)) true))))] H := hP
              have hD : va_D A [(nm, .inr (5, [.ref tT, .ref mS])), (tT, .inl (cI, 256, .inl (aN ztab))), (mS, .inr (4, [.ref mH])), (mH, .inl (cZ, 256, .inl (aB (va_up (tpj u v i (tpi u v i) j) (((np i v) ^^^ (np u j)) ^^^ (np i j)) true))))] := hD
              refine W.widen (k := 0) (n := 0) (Nat.le_of_ble_eq_true rfl) (Nat.le_of_ble_eq_true rfl) ?_
              subst e49
              refine lv_pop hx hb dX3_productByTrying_52 rfl ?_
              refine lv_iinc (v := (nI (j + 1))) (lv' := [(4, .int (nI (j + 1))), (0, .ref nm), (1, .int (nI u)), (2, .int (nI v)), (3, .int (nI i))]) hx hb dX3_productByTrying_53 hl (k := 4) rfl (z_inc j 1) (by decide) rfl (fun ls hl => ?_)
              refine lv_goto (tgt := 17) hx hb dX3_productByTrying_56 (by decide) ?_
              have hP : va_P D vwCl [(nm, .inr (5, [.ref tT, .ref mS])), (tT, .inl (cI, 256, .inl (aN ztab))), (mS, .inr (4, [.ref mH])), (mH, .inl (cZ, 256, .inl (aB (tpj u v i (tpi u v i) (j + 1)))))] H := Eq.mp (congrArg (fun z9 => va_P D vwCl [(nm, .inr (5, [.ref tT, .ref mS])), (tT, .inl (cI, 256, .inl (aN ztab))), (mS, .inr (4, [.ref mH])), (mH, .inl (cZ, 256, .inl (aB z9)))] H) ((show va_up (tpj u v i (tpi u v i) j) (((np i v) ^^^ (np u j)) ^^^ (np i j)) true = tpj u v i (tpi u v i) (j + 1) from rfl))) hP
              have hD : va_D A [(nm, .inr (5, [.ref tT, .ref mS])), (tT, .inl (cI, 256, .inl (aN ztab))), (mS, .inr (4, [.ref mH])), (mH, .inl (cZ, 256, .inl (aB (tpj u v i (tpi u v i) (j + 1)))))] := Eq.mp (congrArg (fun z9 => va_D A [(nm, .inr (5, [.ref tT, .ref mS])), (tT, .inl (cI, 256, .inl (aN ztab))), (mS, .inr (4, [.ref mH])), (mH, .inl (cZ, 256, .inl (aB z9)))]) ((show va_up (tpj u v i (tpi u v i) j) (((np i v) ^^^ (np u j)) ^^^ (np i j)) true = tpj u v i (tpi u v i) (j + 1) from rfl))) hD
              exact ih_17 (j + 1) (by omega) (by omega) H locs hP hD hS ls (lv_sub hl [1, 2, 3, 4, 0] rfl)
        have hP : va_P D vwCl [(nm, .inr (5, [.ref tT, .ref mS])), (tT, .inl (cI, 256, .inl (aN ztab))), (mS, .inr (4, [.ref mH])), (mH, .inl (cZ, 256, .inl (aB (tpj u v i (tpi u v i) 0))))] H := Eq.mp (congrArg (fun z9 => va_P D vwCl [(nm, .inr (5, [.ref tT, .ref mS])), (tT, .inl (cI, 256, .inl (aN ztab))), (mS, .inr (4, [.ref mH])), (mH, .inl (cZ, 256, .inl (aB z9)))] H) ((show tpi u v i = tpj u v i (tpi u v i) 0 from rfl))) hP
        have hD : va_D A [(nm, .inr (5, [.ref tT, .ref mS])), (tT, .inl (cI, 256, .inl (aN ztab))), (mS, .inr (4, [.ref mH])), (mH, .inl (cZ, 256, .inl (aB (tpj u v i (tpi u v i) 0))))] := Eq.mp (congrArg (fun z9 => va_D A [(nm, .inr (5, [.ref tT, .ref mS])), (tT, .inl (cI, 256, .inl (aN ztab))), (mS, .inr (4, [.ref mH])), (mH, .inl (cZ, 256, .inl (aB z9)))]) ((show tpi u v i = tpj u v i (tpi u v i) 0 from rfl))) hD
        exact cut_17 ((v - 0) + 1) 0 (by omega) (Nat.lt_succ_self _) H locs hP hD hS ls (lv_sub hl [1, 2, 3, 4, 0] rfl)
  have hP : va_P D vwCl [(nm, .inr (5, [.ref tT, .ref mS])), (tT, .inl (cI, 256, .inl (aN ztab))), (mS, .inr (4, [.ref mH])), (mH, .inl (cZ, 256, .inl (aB (tpi u v 0))))] H := Eq.mp (congrArg (fun z9 => va_P D vwCl [(nm, .inr (5, [.ref tT, .ref mS])), (tT, .inl (cI, 256, .inl (aN ztab))), (mS, .inr (4, [.ref mH])), (mH, .inl (cZ, 256, .inl (aB z9)))] H) ((show (fun _ => false) = tpi u v 0 from rfl))) hP
  have hD : va_D A [(nm, .inr (5, [.ref tT, .ref mS])), (tT, .inl (cI, 256, .inl (aN ztab))), (mS, .inr (4, [.ref mH])), (mH, .inl (cZ, 256, .inl (aB (tpi u v 0))))] := Eq.mp (congrArg (fun z9 => va_D A [(nm, .inr (5, [.ref tT, .ref mS])), (tT, .inl (cI, 256, .inl (aN ztab))), (mS, .inr (4, [.ref mH])), (mH, .inl (cZ, 256, .inl (aB z9)))]) ((show (fun _ => false) = tpi u v 0 from rfl))) hD
  exact cut_9 ((u - 0) + 1) 0 (by omega) (Nat.lt_succ_self _) H locs hP hD hS ls (lv_sub hl [1, 2, 3, 0] rfl)
abbrev rm_c_X3_areClosedBelow : Room := { frames := 2, cells := 0, slots := 0, locals := 53 }
abbrev q_c_X3_areClosedBelow (D : va_G) (nm : Nat) (tT : Nat) (mS : Nat) (cI : ClassId) (n9 : Nat) : Array Value → State → Outcome → State → Prop := vp_Si (fun r => r = (bI (dB (clP n9))))
set_option maxHeartbeats 4000000 in
set_option maxRecDepth 100000 in
theorem c_X3_areClosedBelow (l : Launch) (D : va_G) (nm : Nat) (tT : Nat) (mS : Nat) (cI : ClassId) (n9 : Nat) (hn9 : n9 ≤ 16) : Met l yX3_areClosedBelow wsX3_areClosedBelow rm_c_X3_areClosedBelow (va_Pc [.ref nm, .int (nI n9)] (fun U => va_P D vwCl [(nm, .inr (5, [.ref tT, .ref mS])), (tT, .inl (cI, 256, .inl (aN ztab)))] U.heap ∧ va_K D vwCl [(cI, .int)] U)) (q_c_X3_areClosedBelow D nm tT mS cI n9) 0 0 (fun _ => False) := by
  refine Met.ofW (cc := cX3_areClosedBelow) (maxL := 4) (ret := (some .boolean)) (by decide) rfl ?_
  intro p e s m args below meth c s₁ B hml hv
  obtain ⟨hargs, hP, hK⟩ := hv
  have hx := B.exec
  have hb := B.bytes
  have hr := B.returns
  have hts := atoms_spec (ws := wsX3_areClosedBelow) B.pre
  have hown : s.vm.findClass RX3 = some m.cls := findClass_of_methodNamed B.named
  have hlocks := B.notSynchronized
  have hl := lv_entry ([.ref nm, .int (nI n9)]) (n := 4) (Nat.le_of_ble_eq_true rfl)
  refine W.eq (g2 := F0 m 0 (lg_sl ([.ref nm, .int (nI n9)]) ++ List.replicate (4 - (lg_sl ([.ref nm, .int (nI n9)])).length) Slot.unset).toArray []) (by rw [hargs]; exact lg_entry_eq _ _ _) ?_
  generalize (lg_sl ([.ref nm, .int (nI n9)]) ++ List.replicate (4 - (lg_sl ([.ref nm, .int (nI n9)])).length) Slot.unset).toArray = ls at hl ⊢
  have hl : lv_has ls 4 [(0, .ref nm), (1, .int (nI n9))] := hl
  refine lv_iconst (v := nI 0) hx hb dX3_areClosedBelow_0 zki_0 ?_
  refine lv_istore_n (lv' := [(2, .int (nI 0)), (0, .ref nm), (1, .int (nI n9))]) hx hb dX3_areClosedBelow_1 rfl hl (by decide) rfl (fun ls hl => ?_)
  have cut_2 : ∀ (n : Nat) (i : Nat) (hi : i ≤ n9) (hall : ∀ x, x < i → ∀ y, y < n9 → x ^^^ y < n9 ∧ np x y < n9) (hn9 : n9 - i < n) (ls : Array Slot) (hl : lv_has ls 4 [(0, .ref nm), (1, .int (nI n9)), (2, .int (nI i))]), W p l e (headSpec wsX3_areClosedBelow rm_c_X3_areClosedBelow).room s m args below meth c s.heap [] 0 0 (MQ below (q_c_X3_areClosedBelow D nm tT mS cI n9) args s 0 0 (fun _ => False)) (F0 m 2 ls []) := by
    intro n
    induction n with
    | zero => intro i hi hall hn9; exact absurd hn9 (Nat.not_lt_zero _)
    | succ n ih_2 =>
      intro i hi hall hn9 ls hl
      refine lv_iload_n hx hb dX3_areClosedBelow_2 rfl (lv_at hl 2 rfl) ?_
      refine lv_iload_n hx hb dX3_areClosedBelow_3 rfl (lv_at hl 1 rfl) ?_
      refine z_cge (tgt := 45) hx hb (by omega) (by omega) dX3_areClosedBelow_4 (by decide) (fun c_4 => ?_) (fun c_4 => ?_)
      · refine lv_iconst (v := nI 1) hx hb dX3_areClosedBelow_45 zki_1 ?_
        refine zt (show nI 1 = bI true from rfl) ?_
        exact W.zret (ty := .boolean) hx hb hr (z_narB _) (fun t ht _ => ⟨_, rfl, (congrArg bI (dB_t (fun x hx9 => hall x (by omega))).symm), ht⟩) (fun _ h => nomatch h) dX3_areClosedBelow_46
      · refine lv_iconst (v := nI 0) hx hb dX3_areClosedBelow_7 zki_0 ?_
        refine lv_istore_n (lv' := [(3, .int (nI 0)), (0, .ref nm), (1, .int (nI n9)), (2, .int (nI i))]) hx hb dX3_areClosedBelow_8 rfl hl (by decide) rfl (fun ls hl => ?_)
        have cut_9 : ∀ (n : Nat) (j : Nat) (hj : j ≤ n9) (hrow : ∀ y, y < j → i ^^^ y < n9 ∧ np i y < n9) (hn9 : n9 - j < n) (ls : Array Slot) (hl : lv_has ls 4 [(0, .ref nm), (1, .int (nI n9)), (2, .int (nI i)), (3, .int (nI j))]), W p l e (headSpec wsX3_areClosedBelow rm_c_X3_areClosedBelow).room s m args below meth c s.heap [] 0 0 (MQ below (q_c_X3_areClosedBelow D nm tT mS cI n9) args s 0 0 (fun _ => False)) (F0 m 9 ls []) := by
          intro n
          induction n with
          | zero => intro j hj hrow hn9; exact absurd hn9 (Nat.not_lt_zero _)
          | succ n ih_9 =>
            intro j hj hrow hn9 ls hl
            refine lv_iload_n hx hb dX3_areClosedBelow_9 rfl (lv_at hl 3 rfl) ?_
            refine lv_iload_n hx hb dX3_areClosedBelow_10 rfl (lv_at hl 1 rfl) ?_
            refine z_cge (tgt := 39) hx hb (by omega) (by omega) dX3_areClosedBelow_11 (by decide) (fun c_11 => ?_) (fun c_11 => ?_)
            · refine lv_iinc (v := (nI (i + 1))) (lv' := [(2, .int (nI (i + 1))), (0, .ref nm), (1, .int (nI n9)), (3, .int (nI j))]) hx hb dX3_areClosedBelow_39 hl (k := 2) rfl (z_inc i 1) (by decide) rfl (fun ls hl => ?_)
              refine lv_goto (tgt := 2) hx hb dX3_areClosedBelow_42 (by decide) ?_
              exact ih_2 (i + 1) (by omega) (fun x hx9 => (Nat.lt_or_ge x i).elim (hall x) (fun q => by rw [show x = i by omega]; intro y hy; exact hrow y (by omega))) (by omega) ls (lv_sub hl [1, 2, 0] rfl)
            · refine lv_iload_n hx hb dX3_areClosedBelow_14 rfl (lv_at hl 2 rfl) ?_
              refine lv_iload_n hx hb dX3_areClosedBelow_15 rfl (lv_at hl 3 rfl) ?_
              refine z_xor hx hb dX3_areClosedBelow_16 ?_
              refine lv_iload_n hx hb dX3_areClosedBelow_17 rfl (lv_at hl 1 rfl) ?_
              have hx18 : i ^^^ j < 16 := zx4 (by omega) (by omega)
              refine z_cge (tgt := 31) hx hb (by omega) (by omega) dX3_areClosedBelow_18 (by decide) (fun c_18 => ?_) (fun c_18 => ?_)
              · refine lv_iconst (v := nI 0) hx hb dX3_areClosedBelow_31 zki_0 ?_
                refine zt (show nI 0 = bI false from rfl) ?_
                exact W.zret (ty := .boolean) hx hb hr (z_narB _) (fun t ht _ => ⟨_, rfl, (congrArg bI (dB_f (fun q => by have := q i (by omega) j (by omega); omega)).symm), ht⟩) (fun _ h => nomatch h) dX3_areClosedBelow_32
              · refine lv_aload_n hx hb dX3_areClosedBelow_21 rfl (lv_at hl 0 rfl) ?_
                refine lv_iload_n hx hb dX3_areClosedBelow_22 rfl (lv_at hl 2 rfl) ?_
                refine lv_iload_n hx hb dX3_areClosedBelow_23 rfl (lv_at hl 3 rfl) ?_
                refine z_ci (va_runV (As := [.int (nI i), .int (nI j)]) (rest := []) ⟨hx, hb, hml, hown, hts⟩ (c_X3_productOf l D nm tT mS cI i j (by omega) (by omega)) (cwV 2 hts gX3_areClosedBelow_X3_productOf rfl rfl rfl (by decide +kernel) ⟨Nat.le_of_ble_eq_true rfl, Nat.le_of_ble_eq_true rfl⟩) ⟨(z_fb1), va_recv hK hP (ci := 5) (q0 := 0) rfl rfl, fun U hU hW => ⟨rfl, by rw [hU]; exact hP, va_K.moved hW.alike hK⟩⟩ rfl rfl hl.1 rfl (lv_room (Nat.le_of_ble_eq_true rfl)) dX3_areClosedBelow_24 ⟨Nat.le_of_ble_eq_true rfl, Nat.le_of_ble_eq_true rfl⟩) (fun r24 e24 => ?_)
                subst e24
                have hn24 : np i j < 256 := np_lt (by omega) (by omega)
                refine lv_iload_n hx hb dX3_areClosedBelow_27 rfl (lv_at hl 1 rfl) ?_
                refine z_clt (tgt := 33) hx hb (by omega) (by omega) dX3_areClosedBelow_28 (by decide) (fun c_28 => ?_) (fun c_28 => ?_)
                · refine lv_iinc (v := (nI (j + 1))) (lv' := [(3, .int (nI (j + 1))), (0, .ref nm), (1, .int (nI n9)), (2, .int (nI i))]) hx hb dX3_areClosedBelow_33 hl (k := 3) rfl (z_inc j 1) (by decide) rfl (fun ls hl => ?_)
                  refine lv_goto (tgt := 9) hx hb dX3_areClosedBelow_36 (by decide) ?_
                  exact ih_9 (j + 1) (by omega) (fun y hy => (Nat.lt_or_ge y j).elim (hrow y) (fun q => by rw [show y = j by omega]; exact ⟨c_18, c_28⟩)) (by omega) ls (lv_sub hl [1, 2, 3, 0] rfl)
                · refine lv_iconst (v := nI 0) hx hb dX3_areClosedBelow_31 zki_0 ?_
                  refine zt (show nI 0 = bI false from rfl) ?_
                  exact W.zret (ty := .boolean) hx hb hr (z_narB _) (fun t ht _ => ⟨_, rfl, (congrArg bI (dB_f (fun q => by have := q i (by omega) j (by omega); omega)).symm), ht⟩) (fun _ h => nomatch h) dX3_areClosedBelow_32
        exact cut_9 ((n9 - 0) + 1) 0 (by omega) (fun x q => absurd q (Nat.not_lt_zero x)) (Nat.lt_succ_self _) ls (lv_sub hl [1, 2, 3, 0] rfl)
  exact cut_2 ((n9 - 0) + 1) 0 (by omega) (fun x q => absurd q (Nat.not_lt_zero x)) (Nat.lt_succ_self _) ls (lv_sub hl [1, 2, 0] rfl)
abbrev rm_c_X3_hasInverseBelow : Room := { frames := 2, cells := 0, slots := 0, locals := 53 }
abbrev q_c_X3_hasInverseBelow (D : va_G) (nm : Nat) (tT : Nat) (mS : Nat) (cI : ClassId) (u : Nat) (n9 : Nat) : Array Value → State → Outcome → State → Prop := vp_Si (fun r => r = (bI (dB (∃ y, y < n9 ∧ np u y = 1))))
set_option maxHeartbeats 4000000 in
set_option maxRecDepth 100000 in
theorem c_X3_hasInverseBelow (l : Launch) (D : va_G) (nm : Nat) (tT : Nat) (mS : Nat) (cI : ClassId) (u : Nat) (n9 : Nat) (hu : u < 16) (hn9 : n9 ≤ 16) : Met l yX3_hasInverseBelow wsX3_hasInverseBelow rm_c_X3_hasInverseBelow (va_Pc [.ref nm, .int (nI u), .int (nI n9)] (fun U => va_P D vwCl [(nm, .inr (5, [.ref tT, .ref mS])), (tT, .inl (cI, 256, .inl (aN ztab)))] U.heap ∧ va_K D vwCl [(cI, .int)] U)) (q_c_X3_hasInverseBelow D nm tT mS cI u n9) 0 0 (fun _ => False) := by
  refine Met.ofW (cc := cX3_hasInverseBelow) (maxL := 4) (ret := (some .boolean)) (by decide) rfl ?_
  intro p e s m args below meth c s₁ B hml hv
  obtain ⟨hargs, hP, hK⟩ := hv
  have hx := B.exec
  have hb := B.bytes
  have hr := B.returns
  have hts := atoms_spec (ws := wsX3_hasInverseBelow) B.pre
  have hown : s.vm.findClass RX3 = some m.cls := findClass_of_methodNamed B.named
  have hlocks := B.notSynchronized
  have hl := lv_entry ([.ref nm, .int (nI u), .int (nI n9)]) (n := 4) (Nat.le_of_ble_eq_true rfl)
  refine W.eq (g2 := F0 m 0 (lg_sl ([.ref nm, .int (nI u), .int (nI n9)]) ++ List.replicate (4 - (lg_sl ([.ref nm, .int (nI u), .int (nI n9)])).length) Slot.unset).toArray []) (by rw [hargs]; exact lg_entry_eq _ _ _) ?_
  generalize (lg_sl ([.ref nm, .int (nI u), .int (nI n9)]) ++ List.replicate (4 - (lg_sl ([.ref nm, .int (nI u), .int (nI n9)])).length) Slot.unset).toArray = ls at hl ⊢
  have hl : lv_has ls 4 [(0, .ref nm), (1, .int (nI u)), (2, .int (nI n9))] := hl
  refine lv_iconst (v := nI 0) hx hb dX3_hasInverseBelow_0 zki_0 ?_
  refine lv_istore_n (lv' := [(3, .int (nI 0)), (0, .ref nm), (1, .int (nI u)), (2, .int (nI n9))]) hx hb dX3_hasInverseBelow_1 rfl hl (by decide) rfl (fun ls hl => ?_)
  have cut_2 : ∀ (n : Nat) (i : Nat) (hi : i ≤ n9) (hall : ∀ y, y < i → np u y ≠ 1) (hn9 : n9 - i < n) (ls : Array Slot) (hl : lv_has ls 4 [(0, .ref nm), (1, .int (nI u)), (2, .int (nI n9)), (3, .int (nI i))]), W p l e (headSpec wsX3_hasInverseBelow rm_c_X3_hasInverseBelow).room s m args below meth c s.heap [] 0 0 (MQ below (q_c_X3_hasInverseBelow D nm tT mS cI u n9) args s 0 0 (fun _ => False)) (F0 m 2 ls []) := by
    intro n
    induction n with
    | zero => intro i hi hall hn9; exact absurd hn9 (Nat.not_lt_zero _)
    | succ n ih_2 =>
      intro i hi hall hn9 ls hl
      refine lv_iload_n hx hb dX3_hasInverseBelow_2 rfl (lv_at hl 3 rfl) ?_
      refine lv_iload_n hx hb dX3_hasInverseBelow_3 rfl (lv_at hl 2 rfl) ?_
      refine z_cge (tgt := 25) hx hb (by omega) (by omega) dX3_hasInverseBelow_4 (by decide) (fun c_4 => ?_) (fun c_4 => ?_)
      · refine lv_iconst (v := nI 0) hx hb dX3_hasInverseBelow_25 zki_0 ?_
        refine zt (show nI 0 = bI false from rfl) ?_
        exact W.zret (ty := .boolean) hx hb hr (z_narB _) (fun t ht _ => ⟨_, rfl, (congrArg bI (dB_f (fun ⟨y, hy, q⟩ => hall y (by omega) q)).symm), ht⟩) (fun _ h => nomatch h) dX3_hasInverseBelow_26
      · refine lv_aload_n hx hb dX3_hasInverseBelow_7 rfl (lv_at hl 0 rfl) ?_
        refine lv_iload_n hx hb dX3_hasInverseBelow_8 rfl (lv_at hl 1 rfl) ?_
        refine lv_iload_n hx hb dX3_hasInverseBelow_9 rfl (lv_at hl 3 rfl) ?_
        refine z_ci (va_runV (As := [.int (nI u), .int (nI i)]) (rest := []) ⟨hx, hb, hml, hown, hts⟩ (c_X3_productOf l D nm tT mS cI u i (by omega) (by omega)) (cwV 2 hts gX3_hasInverseBelow_X3_productOf rfl rfl rfl (by decide +kernel) ⟨Nat.le_of_ble_eq_true rfl, Nat.le_of_ble_eq_true rfl⟩) ⟨(z_fb1), va_recv hK hP (ci := 5) (q0 := 0) rfl rfl, fun U hU hW => ⟨rfl, by rw [hU]; exact hP, va_K.moved hW.alike hK⟩⟩ rfl rfl hl.1 rfl (lv_room (Nat.le_of_ble_eq_true rfl)) dX3_hasInverseBelow_10 ⟨Nat.le_of_ble_eq_true rfl, Nat.le_of_ble_eq_true rfl⟩) (fun r10 e10 => ?_)
        subst e10
        have hn10 : np u i < 256 := np_lt (by omega) (by omega)
        refine lv_iconst (v := nI 1) hx hb dX3_hasInverseBelow_13 zki_1 ?_
        refine z_cne (tgt := 19) hx hb (by omega) (by omega) dX3_hasInverseBelow_14 (by decide) (fun c_14 => ?_) (fun c_14 => ?_)
        · refine lv_iinc (v := (nI (i + 1))) (lv' := [(3, .int (nI (i + 1))), (0, .ref nm), (1, .int (nI u)), (2, .int (nI n9))]) hx hb dX3_hasInverseBelow_19 hl (k := 3) rfl (z_inc i 1) (by decide) rfl (fun ls hl => ?_)
          refine lv_goto (tgt := 2) hx hb dX3_hasInverseBelow_22 (by decide) ?_
          exact ih_2 (i + 1) (by omega) (fun y hy => (Nat.lt_or_ge y i).elim (hall y) (fun q => by rw [show y = i by omega]; exact c_14)) (by omega) ls (lv_sub hl [1, 2, 3, 0] rfl)
        · refine lv_iconst (v := nI 1) hx hb dX3_hasInverseBelow_17 zki_1 ?_
          refine zt (show nI 1 = bI true from rfl) ?_
          exact W.zret (ty := .boolean) hx hb hr (z_narB _) (fun t ht _ => ⟨_, rfl, (congrArg bI (dB_t ⟨i, by omega, c_14⟩).symm), ht⟩) (fun _ h => nomatch h) dX3_hasInverseBelow_18
  exact cut_2 ((n9 - 0) + 1) 0 (by omega) (fun x q => absurd q (Nat.not_lt_zero x)) (Nat.lt_succ_self _) ls (lv_sub hl [1, 2, 3, 0] rfl)
abbrev rm_c_X3_haveInversesBelow : Room := { frames := 3, cells := 0, slots := 0, locals := 76 }
abbrev q_c_X3_haveInversesBelow (D : va_G) (nm : Nat) (tT : Nat) (mS : Nat) (cI : ClassId) (n9 : Nat) : Array Value → State → Outcome → State → Prop := vp_Si (fun r => r = (bI (dB (ivP n9))))
set_option maxHeartbeats 4000000 in
set_option maxRecDepth 100000 in
theorem c_X3_haveInversesBelow (l : Launch) (D : va_G) (nm : Nat) (tT : Nat) (mS : Nat) (cI : ClassId) (n9 : Nat) (hn9 : n9 ≤ 16) (hn1 : 1 ≤ n9) : Met l yX3_haveInversesBelow wsX3_haveInversesBelow rm_c_X3_haveInversesBelow (va_Pc [.ref nm, .int (nI n9)] (fun U => va_P D vwCl [(nm, .inr (5, [.ref tT, .ref mS])), (tT, .inl (cI, 256, .inl (aN ztab)))] U.heap ∧ va_K D vwCl [(cI, .int)] U)) (q_c_X3_haveInversesBelow D nm tT mS cI n9) 0 0 (fun _ => False) := by
  refine Met.ofW (cc := cX3_haveInversesBelow) (maxL := 3) (ret := (some .boolean)) (by decide) rfl ?_
  intro p e s m args below meth c s₁ B hml hv
  obtain ⟨hargs, hP, hK⟩ := hv
  have hx := B.exec
  have hb := B.bytes
  have hr := B.returns
  have hts := atoms_spec (ws := wsX3_haveInversesBelow) B.pre
  have hown : s.vm.findClass RX3 = some m.cls := findClass_of_methodNamed B.named
  have hlocks := B.notSynchronized
  have hl := lv_entry ([.ref nm, .int (nI n9)]) (n := 3) (Nat.le_of_ble_eq_true rfl)
  refine W.eq (g2 := F0 m 0 (lg_sl ([.ref nm, .int (nI n9)]) ++ List.replicate (3 - (lg_sl ([.ref nm, .int (nI n9)])).length) Slot.unset).toArray []) (by rw [hargs]; exact lg_entry_eq _ _ _) ?_
  generalize (lg_sl ([.ref nm, .int (nI n9)]) ++ List.replicate (3 - (lg_sl ([.ref nm, .int (nI n9)])).length) Slot.unset).toArray = ls at hl ⊢
  have hl : lv_has ls 3 [(0, .ref nm), (1, .int (nI n9))] := hl
  refine lv_iconst (v := nI 1) hx hb dX3_haveInversesBelow_0 zki_1 ?_
  refine lv_istore_n (lv' := [(2, .int (nI 1)), (0, .ref nm), (1, .int (nI n9))]) hx hb dX3_haveInversesBelow_1 rfl hl (by decide) rfl (fun ls hl => ?_)
  have cut_2 : ∀ (n : Nat) (i : Nat) (hi : i ≤ n9) (hi1 : 1 ≤ i) (hall : ∀ x, x < i → 1 ≤ x → ∃ y, y < n9 ∧ np x y = 1) (hn9 : n9 - i < n) (ls : Array Slot) (hl : lv_has ls 3 [(0, .ref nm), (1, .int (nI n9)), (2, .int (nI i))]), W p l e (headSpec wsX3_haveInversesBelow rm_c_X3_haveInversesBelow).room s m args below meth c s.heap [] 0 0 (MQ below (q_c_X3_haveInversesBelow D nm tT mS cI n9) args s 0 0 (fun _ => False)) (F0 m 2 ls []) := by
    intro n
    induction n with
    | zero => intro i hi hi1 hall hn9; exact absurd hn9 (Nat.not_lt_zero _)
    | succ n ih_2 =>
      intro i hi hi1 hall hn9 ls hl
      refine lv_iload_n hx hb dX3_haveInversesBelow_2 rfl (lv_at hl 2 rfl) ?_
      refine lv_iload_n hx hb dX3_haveInversesBelow_3 rfl (lv_at hl 1 rfl) ?_
      refine z_cge (tgt := 24) hx hb (by omega) (by omega) dX3_haveInversesBelow_4 (by decide) (fun c_4 => ?_) (fun c_4 => ?_)
      · refine lv_iconst (v := nI 1) hx hb dX3_haveInversesBelow_24 zki_1 ?_
        refine zt (show nI 1 = bI true from rfl) ?_
        exact W.zret (ty := .boolean) hx hb hr (z_narB _) (fun t ht _ => ⟨_, rfl, (congrArg bI (dB_t (fun x hx9 h1 => hall x (by omega) h1)).symm), ht⟩) (fun _ h => nomatch h) dX3_haveInversesBelow_25
      · refine lv_aload_n hx hb dX3_haveInversesBelow_7 rfl (lv_at hl 0 rfl) ?_
        refine lv_iload_n hx hb dX3_haveInversesBelow_8 rfl (lv_at hl 2 rfl) ?_
        refine lv_iload_n hx hb dX3_haveInversesBelow_9 rfl (lv_at hl 1 rfl) ?_
        refine z_ci (va_runV (As := [.int (nI i), .int (nI n9)]) (rest := []) ⟨hx, hb, hml, hown, hts⟩ (c_X3_hasInverseBelow l D nm tT mS cI i n9 (by omega) (by omega)) (cwV 2 hts gX3_haveInversesBelow_X3_hasInverseBelow rfl rfl rfl (by decide +kernel) ⟨Nat.le_of_ble_eq_true rfl, Nat.le_of_ble_eq_true rfl⟩) ⟨(z_fb1), va_recv hK hP (ci := 5) (q0 := 0) rfl rfl, fun U hU hW => ⟨rfl, by rw [hU]; exact hP, va_K.moved hW.alike hK⟩⟩ rfl rfl hl.1 rfl (lv_room (Nat.le_of_ble_eq_true rfl)) dX3_haveInversesBelow_10 ⟨Nat.le_of_ble_eq_true rfl, Nat.le_of_ble_eq_true rfl⟩) (fun r10 e10 => ?_)
        subst e10
        refine z_bne (tgt := 18) hx hb dX3_haveInversesBelow_13 (by decide) (fun c_13 => ?_) (fun c_13 => ?_)
        · refine lv_iinc (v := (nI (i + 1))) (lv' := [(2, .int (nI (i + 1))), (0, .ref nm), (1, .int (nI n9))]) hx hb dX3_haveInversesBelow_18 hl (k := 2) rfl (z_inc i 1) (by decide) rfl (fun ls hl => ?_)
          refine lv_goto (tgt := 2) hx hb dX3_haveInversesBelow_21 (by decide) ?_
          exact ih_2 (i + 1) (by omega) (by omega) (fun x hx9 h1 => (Nat.lt_or_ge x i).elim (fun q => hall x q h1) (fun q => by rw [show x = i by omega]; exact dB_of c_13)) (by omega) ls (lv_sub hl [1, 2, 0] rfl)
        · refine lv_iconst (v := nI 0) hx hb dX3_haveInversesBelow_16 zki_0 ?_
          refine zt (show nI 0 = bI false from rfl) ?_
          exact W.zret (ty := .boolean) hx hb hr (z_narB _) (fun t ht _ => ⟨_, rfl, (congrArg bI (dB_f (fun q => dB_no c_13 (q i (by omega) hi1))).symm), ht⟩) (fun _ h => nomatch h) dX3_haveInversesBelow_17
  exact cut_2 ((n9 - 1) + 1) 1 (by omega) (by omega) (fun x q1 q2 => by omega) (Nat.lt_succ_self _) ls (lv_sub hl [1, 2, 0] rfl)
abbrev rm_c_X3_areTriesSound : Room := { frames := 3, cells := 0, slots := 0, locals := 77 }
abbrev q_c_X3_areTriesSound (D : va_G) (sz : Nat) (nm : Nat) (tT : Nat) (mS : Nat) (cI : ClassId) (mH : Nat) (cZ : ClassId) (f : Nat → Bool) (u : Nat) (v : Nat) : Array Value → State → Outcome → State → Prop := va_Qi (fun r (g9 : Nat → Bool) => r = (bI (dB (sd1 u v)))) (fun (g9 : Nat → Bool) t => va_P D vwCl [(nm, .inr (5, [.ref tT, .ref mS])), (tT, .inl (cI, 256, .inl (aN ztab))), (mS, .inr (4, [.ref mH])), (mH, .inl (cZ, 256, .inl (aB g9)))] t.heap ∧ va_K D vwCl [(cI, .int), (cZ, .boolean)] t ∧ va_D (va_A [(nm, .inr (5, [.ref tT, .ref mS])), (tT, .inl (cI, 256, .inl (aN ztab))), (mS, .inr (4, [.ref mH])), (mH, .inl (cZ, 256, .inl (aB f)))] sz) [(nm, .inr (5, [.ref tT, .ref mS])), (tT, .inl (cI, 256, .inl (aN ztab))), (mS, .inr (4, [.ref mH])), (mH, .inl (cZ, 256, .inl (aB g9)))]) (va_A [(nm, .inr (5, [.ref tT, .ref mS])), (tT, .inl (cI, 256, .inl (aN ztab))), (mS, .inr (4, [.ref mH])), (mH, .inl (cZ, 256, .inl (aB f)))] sz)
set_option maxHeartbeats 4000000 in
set_option maxRecDepth 100000 in
theorem c_X3_areTriesSound (l : Launch) (D : va_G) (sz : Nat) (nm : Nat) (tT : Nat) (mS : Nat) (cI : ClassId) (mH : Nat) (cZ : ClassId) (f : Nat → Bool) (u : Nat) (v : Nat) (hu : u < 256) (hv8 : v < 256) : Met l yX3_areTriesSound wsX3_areTriesSound rm_c_X3_areTriesSound (va_Pc [.ref nm, .int (nI u), .int (nI v)] (fun U => U.heap.size = sz ∧ va_P D vwCl [(nm, .inr (5, [.ref tT, .ref mS])), (tT, .inl (cI, 256, .inl (aN ztab))), (mS, .inr (4, [.ref mH])), (mH, .inl (cZ, 256, .inl (aB f)))] U.heap ∧ va_K D vwCl [(cI, .int), (cZ, .boolean)] U ∧ va_D (fun _ => True) [(nm, .inr (5, [.ref tT, .ref mS])), (tT, .inl (cI, 256, .inl (aN ztab))), (mS, .inr (4, [.ref mH])), (mH, .inl (cZ, 256, .inl (aB f)))])) (q_c_X3_areTriesSound D sz nm tT mS cI mH cZ f u v) 0 0 (va_A [(nm, .inr (5, [.ref tT, .ref mS])), (tT, .inl (cI, 256, .inl (aN ztab))), (mS, .inr (4, [.ref mH])), (mH, .inl (cZ, 256, .inl (aB f)))] sz) := by
  refine Met.ofW (cc := cX3_areTriesSound) (maxL := 5) (ret := (some .boolean)) (by decide) rfl ?_
  intro p e s m args below meth c s₁ B hml hv
  obtain ⟨hargs, hsz, hP, hK, hD0⟩ := hv
  have hx := B.exec
  have hb := B.bytes
  have hr := B.returns
  have hts := atoms_spec (ws := wsX3_areTriesSound) B.pre
  have hown : s.vm.findClass RX3 = some m.cls := findClass_of_methodNamed B.named
  have hlocks := B.notSynchronized
  subst hsz
  have hD := hD0.self (sz := s.heap.size)
  generalize hAe : va_A [(nm, .inr (5, [.ref tT, .ref mS])), (tT, .inl (cI, 256, .inl (aN ztab))), (mS, .inr (4, [.ref mH])), (mH, .inl (cZ, 256, .inl (aB f)))] s.heap.size = A at hD ⊢
  have hA : ∀ q : Nat, s.heap.size ≤ q → A q := fun q h => by rw [← hAe]; exact Or.inr h
  have hS : va_S A s.heap s.heap [] := va_S.rf
  have hl := lv_entry ([.ref nm, .int (nI u), .int (nI v)]) (n := 5) (Nat.le_of_ble_eq_true rfl)
  refine W.eq (g2 := F0 m 0 (lg_sl ([.ref nm, .int (nI u), .int (nI v)]) ++ List.replicate (5 - (lg_sl ([.ref nm, .int (nI u), .int (nI v)])).length) Slot.unset).toArray []) (by rw [hargs]; exact lg_entry_eq _ _ _) ?_
  generalize (lg_sl ([.ref nm, .int (nI u), .int (nI v)]) ++ List.replicate (5 - (lg_sl ([.ref nm, .int (nI u), .int (nI v)])).length) Slot.unset).toArray = ls at hl ⊢
  have hl : lv_has ls 5 [(0, .ref nm), (1, .int (nI u)), (2, .int (nI v))] := hl
  refine lv_iload_n hx hb dX3_areTriesSound_0 rfl (lv_at hl 1 rfl) ?_
  refine lv_bipush (v := nI 16) hx hb dX3_areTriesSound_1 zkb_16 ?_
  refine z_rem hx hb (by omega) (by omega) (by omega) dX3_areTriesSound_3 ?_
  refine lv_istore_n (lv' := [(3, .int (nI (u % 16))), (0, .ref nm), (1, .int (nI u)), (2, .int (nI v))]) hx hb dX3_areTriesSound_4 rfl hl (by decide) rfl (fun ls hl => ?_)
  refine lv_iload_n hx hb dX3_areTriesSound_5 rfl (lv_at hl 3 rfl) ?_
  refine lv_bipush (v := nI 16) hx hb dX3_areTriesSound_6 zkb_16 ?_
  refine z_rem hx hb (by omega) (by omega) (by omega) dX3_areTriesSound_8 ?_
  refine lv_istore (lv' := [(4, .int (nI (v % 16))), (3, .int (nI (u % 16))), (0, .ref nm), (1, .int (nI u)), (2, .int (nI v))]) hx hb dX3_areTriesSound_9 hl (by decide) rfl (fun ls hl => ?_)
  refine lv_aload_n hx hb dX3_areTriesSound_11 rfl (lv_at hl 2 rfl) ?_
  refine lv_iload_n hx hb dX3_areTriesSound_12 rfl (lv_at hl 3 rfl) ?_
  refine lv_iload_n hx hb dX3_areTriesSound_13 rfl (lv_at hl 4 rfl) ?_
  have hPc := hP.sub (ws' := [(nm, .inr (5, [.ref tT, .ref mS])), (mS, .inr (4, [.ref mH])), (mH, .inl (cZ, 256, .inl (aB f)))]) [0, 2, 3] rfl
  have hDc := hD.sub (ws' := [(nm, .inr (5, [.ref tT, .ref mS])), (mS, .inr (4, [.ref mH])), (mH, .inl (cZ, 256, .inl (aB f)))]) [0, 2, 3] (by decide) rfl
  have hKc := hK.sub (tys' := [(cZ, .boolean)]) [1] rfl
  have hFc := va_free (wc := [(nm, .inr (5, [.ref tT, .ref mS])), (mS, .inr (4, [.ref mH])), (mH, .inl (cZ, 256, .inl (aB f)))]) hD hS hA [0, 2, 3] rfl
  refine va_calli (va_runV (As := [.int (nI u), .int (nI v)]) (rest := []) ⟨hx, hb, hml, hown, hts⟩ (c_X3_sumByTrying l D s.heap.size nm tT mS mH cZ f u v (by omega) (by omega)) (cwV 2 hts gX3_areTriesSound_X3_sumByTrying rfl rfl rfl (by decide +kernel) ⟨Nat.le_of_ble_eq_true rfl, Nat.le_of_ble_eq_true rfl⟩) ⟨(z_fb2), va_recv hK hP (ci := 5) (q0 := 0) rfl rfl, fun U hU hW => ⟨rfl, by rw [hU], by rw [hU]; exact hPc, va_K.moved hW.alike hKc, hDc.weaken (fun _ _ _ _ => trivial)⟩⟩ rfl rfl hl.1 rfl (lv_room (Nat.le_of_ble_eq_true rfl)) dX3_areTriesSound_14 ⟨Nat.le_of_ble_eq_true rfl, Nat.le_of_ble_eq_true rfl⟩) hS (fun q _ h => hFc q h) hFc (fun r14 u14 t H locs ht hvm e14 hB hz1 hk1 hS => ?_)
  obtain ⟨hP1, hK1, hD1⟩ := hB
  rw [ht] at hP1
  obtain ⟨hP, hD⟩ := va_join (wr := [(tT, .inl (cI, 256, .inl (aN ztab)))]) (w1 := [(nm, .inr (5, [.ref tT, .ref mS])), (mS, .inr (4, [.ref mH])), (mH, .inl (cZ, 256, .inl (aB (ts2 u v v))))]) hP hD [0, 2, 3] [1] rfl rfl (by decide) (by decide) hk1 hFc hP1 hD1
  have hP : va_P D vwCl [(tT, .inl (cI, 256, .inl (aN ztab))), (nm, .inr (5, [.ref tT, .ref mS])), (mS, .inr (4, [.ref mH])), (mH, .inl (cZ, 256, .inl (aB (ts2 u v v))))] H := hP
  have hD : va_D A [(tT, .inl (cI, 256, .inl (aN ztab))), (nm, .inr (5, [.ref tT, .ref mS])), (mS, .inr (4, [.ref mH])), (mH, .inl (cZ, 256, .inl (aB (ts2 u v v))))] := hD
  refine W.widen (k := 0) (n := 0) (Nat.le_of_ble_eq_true rfl) (Nat.le_of_ble_eq_true rfl) ?_
  subst e14
  have hn14 : ts u v < 257 := Nat.lt_succ_of_le (lo_le _ _)
  refine lv_iload_n hx hb dX3_areTriesSound_17 rfl (lv_at hl 3 rfl) ?_
  refine lv_iload_n hx hb dX3_areTriesSound_18 rfl (lv_at hl 4 rfl) ?_
  refine z_xor hx hb dX3_areTriesSound_19 ?_
  have hx20 : u ^^^ v < 256 := zx8 hu hv8
  refine z_cne (tgt := 44) hx hb (by omega) (by omega) dX3_areTriesSound_20 (by decide) (fun c_20 => ?_) (fun c_20 => ?_)
  · refine lv_iconst (v := nI 0) hx hb dX3_areTriesSound_44 zki_0 ?_
    have hP9 := hP.sub (ws' := [(nm, .inr (5, [.ref tT, .ref mS])), (tT, .inl (cI, 256, .inl (aN ztab))), (mS, .inr (4, [.ref mH])), (mH, .inl (cZ, 256, .inl (aB (ts2 u v v))))]) [1, 0, 2, 3] rfl
    have hD9 := hD.sub (ws' := [(nm, .inr (5, [.ref tT, .ref mS])), (tT, .inl (cI, 256, .inl (aN ztab))), (mS, .inr (4, [.ref mH])), (mH, .inl (cZ, 256, .inl (aB (ts2 u v v))))]) [1, 0, 2, 3] (by decide) rfl
    have hK9 := hK.sub (tys' := [(cI, .int), (cZ, .boolean)]) [0, 1] rfl
    subst hAe
    refine W.widen (k := 0) (n := 0) (Nat.le_of_ble_eq_true rfl) (Nat.le_of_ble_eq_true rfl) ?_
    refine zt (show nI 0 = bI false from rfl) ?_
    exact W.zret (ty := .boolean) hx hb hr (z_narB _) (fun t ht hW => ⟨⟨_, ts2 u v v, rfl, (congrArg bI (dB_f (fun q => c_20 q.1)).symm), by rw [ht]; exact hP9, va_K.moved hW.alike hK9, hD9⟩, hS.F ht⟩) hS.2.2 dX3_areTriesSound_45
  · refine lv_aload_n hx hb dX3_areTriesSound_23 rfl (lv_at hl 2 rfl) ?_
    refine lv_iload_n hx hb dX3_areTriesSound_24 rfl (lv_at hl 1 rfl) ?_
    refine lv_iload hx hb dX3_areTriesSound_25 (lv_at hl 0 rfl) ?_
    have hPc := hP.sub (ws' := [(nm, .inr (5, [.ref tT, .ref mS])), (tT, .inl (cI, 256, .inl (aN ztab))), (mS, .inr (4, [.ref mH])), (mH, .inl (cZ, 256, .inl (aB (ts2 u v v))))]) [1, 0, 2, 3] rfl
    have hDc := hD.sub (ws' := [(nm, .inr (5, [.ref tT, .ref mS])), (tT, .inl (cI, 256, .inl (aN ztab))), (mS, .inr (4, [.ref mH])), (mH, .inl (cZ, 256, .inl (aB (ts2 u v v))))]) [1, 0, 2, 3] (by decide) rfl
    have hKc := hK.sub (tys' := [(cI, .int), (cZ, .boolean)]) [0, 1] rfl
    have hFc := va_free (wc := [(nm, .inr (5, [.ref tT, .ref mS])), (tT, .inl (cI, 256, .inl (aN ztab))), (mS, .inr (4, [.ref mH])), (mH, .inl (cZ, 256, .inl (aB (ts2 u v v))))]) hD hS hA [1, 0, 2, 3] rfl
    refine va_calli (va_runV (As := [.int (nI (u % 16)), .int (nI (v % 16))]) (rest := []) ⟨hx, hb, hml, hown, hts⟩ (c_X3_productByTrying l D H.size nm tT mS cI mH cZ (ts2 u v v) (u % 16) (v % 16) (by omega) (by omega)) (cwV 2 hts gX3_areTriesSound_X3_productByTrying rfl rfl rfl (by decide +kernel) ⟨Nat.le_of_ble_eq_true rfl, Nat.le_of_ble_eq_true rfl⟩) ⟨(z_fb2), va_recv hK hP (ci := 5) (q0 := 1) rfl rfl, fun U hU hW => ⟨rfl, by rw [hU], by rw [hU]; exact hPc, va_K.moved hW.alike hKc, hDc.weaken (fun _ _ _ _ => trivial)⟩⟩ rfl rfl hl.1 rfl (lv_room (Nat.le_of_ble_eq_true rfl)) dX3_areTriesSound_27 ⟨Nat.le_of_ble_eq_true rfl, Nat.le_of_ble_eq_true rfl⟩) hS (fun q _ h => hFc q h) hFc (fun r27 u27 t H locs ht hvm e27 hB hz1 hk1 hS => ?_)
    obtain ⟨hP1, hK1, hD1⟩ := hB
    rw [ht] at hP1
    obtain ⟨hP, hD⟩ := va_join (wr := []) (w1 := [(nm, .inr (5, [.ref tT, .ref mS])), (tT, .inl (cI, 256, .inl (aN ztab))), (mS, .inr (4, [.ref mH])), (mH, .inl (cZ, 256, .inl (aB (tpi (u % 16) (v % 16) (u % 16)))))]) hP hD [1, 0, 2, 3] [] rfl rfl (by decide) (by decide) hk1 hFc hP1 hD1
    have hP : va_P D vwCl [(nm, .inr (5, [.ref tT, .ref mS])), (tT, .inl (cI, 256, .inl (aN ztab))), (mS, .inr (4, [.ref mH])), (mH, .inl (cZ, 256, .inl (aB (tpi (u % 16) (v % 16) (u % 16)))))] H := hP
    have hD : va_D A [(nm, .inr (5, [.ref tT, .ref mS])), (tT, .inl (cI, 256, .inl (aN ztab))), (mS, .inr (4, [.ref mH])), (mH, .inl (cZ, 256, .inl (aB (tpi (u % 16) (v % 16) (u % 16)))))] := hD
    refine W.widen (k := 0) (n := 0) (Nat.le_of_ble_eq_true rfl) (Nat.le_of_ble_eq_true rfl) ?_
    subst e27
    have hn27 : tp (u % 16) (v % 16) < 257 := Nat.lt_succ_of_le (lo_le _ _)
    refine lv_aload_n hx hb dX3_areTriesSound_30 rfl (lv_at hl 2 rfl) ?_
    refine lv_iload_n hx hb dX3_areTriesSound_31 rfl (lv_at hl 1 rfl) ?_
    refine lv_iload hx hb dX3_areTriesSound_32 (lv_at hl 0 rfl) ?_
    refine z_ci (va_runV (As := [.int (nI (u % 16)), .int (nI (v % 16))]) (rest := [.int (nI (tp (u % 16) (v % 16)))]) ⟨hx, hb, hml, hown, hts⟩ (c_X3_productOf l D nm tT mS cI (u % 16) (v % 16) (by omega) (by omega)) (cwV 2 hts gX3_areTriesSound_X3_productOf rfl rfl rfl (by decide +kernel) ⟨Nat.le_of_ble_eq_true rfl, Nat.le_of_ble_eq_true rfl⟩) ⟨(z_fb1), va_recv hK hP (ci := 5) (q0 := 0) rfl rfl, fun U hU hW => ⟨rfl, by rw [hU]; exact (hP.sub (ws' := [(nm, .inr (5, [.ref tT, .ref mS])), (tT, .inl (cI, 256, .inl (aN ztab)))]) [0, 1] rfl), va_K.moved hW.alike (hK.sub [0] rfl)⟩⟩ rfl rfl hl.1 rfl (lv_room (Nat.le_of_ble_eq_true rfl)) dX3_areTriesSound_34 ⟨Nat.le_of_ble_eq_true rfl, Nat.le_of_ble_eq_true rfl⟩) (fun r34 e34 => ?_)
    subst e34
    have hn34 : np (u % 16) (v % 16) < 256 := np_lt (by omega) (by omega)
    refine z_cne (tgt := 44) hx hb (by omega) (by omega) dX3_areTriesSound_37 (by decide) (fun c_37 => ?_) (fun c_37 => ?_)
    · refine lv_iconst (v := nI 0) hx hb dX3_areTriesSound_44 zki_0 ?_
      have hP9 := hP.sub (ws' := [(nm, .inr (5, [.ref tT, .ref mS])), (tT, .inl (cI, 256, .inl (aN ztab))), (mS, .inr (4, [.ref mH])), (mH, .inl (cZ, 256, .inl (aB (tpi (u % 16) (v % 16) (u % 16)))))]) [0, 1, 2, 3] rfl
      have hD9 := hD.sub (ws' := [(nm, .inr (5, [.ref tT, .ref mS])), (tT, .inl (cI, 256, .inl (aN ztab))), (mS, .inr (4, [.ref mH])), (mH, .inl (cZ, 256, .inl (aB (tpi (u % 16) (v % 16) (u % 16)))))]) [0, 1, 2, 3] (by decide) rfl
      have hK9 := hK.sub (tys' := [(cI, .int), (cZ, .boolean)]) [0, 1] rfl
      subst hAe
      refine W.widen (k := 0) (n := 0) (Nat.le_of_ble_eq_true rfl) (Nat.le_of_ble_eq_true rfl) ?_
      refine zt (show nI 0 = bI false from rfl) ?_
      exact W.zret (ty := .boolean) hx hb hr (z_narB _) (fun t ht hW => ⟨⟨_, tpi (u % 16) (v % 16) (u % 16), rfl, (congrArg bI (dB_f (fun q => c_37 q.2)).symm), by rw [ht]; exact hP9, va_K.moved hW.alike hK9, hD9⟩, hS.F ht⟩) hS.2.2 dX3_areTriesSound_45
    · refine lv_iconst (v := nI 1) hx hb dX3_areTriesSound_40 zki_1 ?_
      refine lv_goto (tgt := 45) hx hb dX3_areTriesSound_41 (by decide) ?_
      have hP9 := hP.sub (ws' := [(nm, .inr (5, [.ref tT, .ref mS])), (tT, .inl (cI, 256, .inl (aN ztab))), (mS, .inr (4, [.ref mH])), (mH, .inl (cZ, 256, .inl (aB (tpi (u % 16) (v % 16) (u % 16)))))]) [0, 1, 2, 3] rfl
      have hD9 := hD.sub (ws' := [(nm, .inr (5, [.ref tT, .ref mS])), (tT, .inl (cI, 256, .inl (aN ztab))), (mS, .inr (4, [.ref mH])), (mH, .inl (cZ, 256, .inl (aB (tpi (u % 16) (v % 16) (u % 16)))))]) [0, 1, 2, 3] (by decide) rfl
      have hK9 := hK.sub (tys' := [(cI, .int), (cZ, .boolean)]) [0, 1] rfl
      subst hAe
      refine W.widen (k := 0) (n := 0) (Nat.le_of_ble_eq_true rfl) (Nat.le_of_ble_eq_true rfl) ?_
      refine zt (show nI 1 = bI true from rfl) ?_
      exact W.zret (ty := .boolean) hx hb hr (z_narB _) (fun t ht hW => ⟨⟨_, tpi (u % 16) (v % 16) (u % 16), rfl, (congrArg bI (dB_t ⟨c_20, c_37⟩).symm), by rw [ht]; exact hP9, va_K.moved hW.alike hK9, hD9⟩, hS.F ht⟩) hS.2.2 dX3_areTriesSound_45
abbrev rm_c_X3_areProductsSound : Room := { frames := 2, cells := 0, slots := 0, locals := 53 }
abbrev q_c_X3_areProductsSound (D : va_G) (nm : Nat) (tT : Nat) (mS : Nat) (cI : ClassId) (u : Nat) (v : Nat) : Array Value → State → Outcome → State → Prop := vp_Si (fun r => r = (bI (dB (sd2 u v))))
set_option maxHeartbeats 4000000 in
set_option maxRecDepth 100000 in
theorem c_X3_areProductsSound (l : Launch) (D : va_G) (nm : Nat) (tT : Nat) (mS : Nat) (cI : ClassId) (u : Nat) (v : Nat) (hu : u < 256) (hv8 : v < 256) : Met l yX3_areProductsSound wsX3_areProductsSound rm_c_X3_areProductsSound (va_Pc [.ref nm, .int (nI u), .int (nI v)] (fun U => va_P D vwCl [(nm, .inr (5, [.ref tT, .ref mS])), (tT, .inl (cI, 256, .inl (aN ztab)))] U.heap ∧ va_K D vwCl [(cI, .int)] U)) (q_c_X3_areProductsSound D nm tT mS cI u v) 0 0 (fun _ => False) := by
  refine Met.ofW (cc := cX3_areProductsSound) (maxL := 3) (ret := (some .boolean)) (by decide) rfl ?_
  intro p e s m args below meth c s₁ B hml hv
  obtain ⟨hargs, hP, hK⟩ := hv
  have hx := B.exec
  have hb := B.bytes
  have hr := B.returns
  have hts := atoms_spec (ws := wsX3_areProductsSound) B.pre
  have hown : s.vm.findClass RX3 = some m.cls := findClass_of_methodNamed B.named
  have hlocks := B.notSynchronized
  have hl := lv_entry ([.ref nm, .int (nI u), .int (nI v)]) (n := 3) (Nat.le_of_ble_eq_true rfl)
  refine W.eq (g2 := F0 m 0 (lg_sl ([.ref nm, .int (nI u), .int (nI v)]) ++ List.replicate (3 - (lg_sl ([.ref nm, .int (nI u), .int (nI v)])).length) Slot.unset).toArray []) (by rw [hargs]; exact lg_entry_eq _ _ _) ?_
  generalize (lg_sl ([.ref nm, .int (nI u), .int (nI v)]) ++ List.replicate (3 - (lg_sl ([.ref nm, .int (nI u), .int (nI v)])).length) Slot.unset).toArray = ls at hl ⊢
  have hl : lv_has ls 3 [(0, .ref nm), (1, .int (nI u)), (2, .int (nI v))] := hl
  refine lv_aload_n hx hb dX3_areProductsSound_0 rfl (lv_at hl 0 rfl) ?_
  refine lv_iload_n hx hb dX3_areProductsSound_1 rfl (lv_at hl 1 rfl) ?_
  refine lv_iload_n hx hb dX3_areProductsSound_2 rfl (lv_at hl 2 rfl) ?_
  refine z_ci (va_runV (As := [.int (nI u), .int (nI v)]) (rest := []) ⟨hx, hb, hml, hown, hts⟩ (c_X3_productOf l D nm tT mS cI u v (by omega) (by omega)) (cwV 2 hts gX3_areProductsSound_X3_productOf rfl rfl rfl (by decide +kernel) ⟨Nat.le_of_ble_eq_true rfl, Nat.le_of_ble_eq_true rfl⟩) ⟨(z_fb1), va_recv hK hP (ci := 5) (q0 := 0) rfl rfl, fun U hU hW => ⟨rfl, by rw [hU]; exact hP, va_K.moved hW.alike hK⟩⟩ rfl rfl hl.1 rfl (lv_room (Nat.le_of_ble_eq_true rfl)) dX3_areProductsSound_3 ⟨Nat.le_of_ble_eq_true rfl, Nat.le_of_ble_eq_true rfl⟩) (fun r3 e3 => ?_)
  subst e3
  have hn3 : np u v < 256 := np_lt (by omega) (by omega)
  refine lv_aload_n hx hb dX3_areProductsSound_6 rfl (lv_at hl 0 rfl) ?_
  refine lv_iload_n hx hb dX3_areProductsSound_7 rfl (lv_at hl 2 rfl) ?_
  refine lv_iload_n hx hb dX3_areProductsSound_8 rfl (lv_at hl 1 rfl) ?_
  refine z_ci (va_runV (As := [.int (nI v), .int (nI u)]) (rest := [.int (nI (np u v))]) ⟨hx, hb, hml, hown, hts⟩ (c_X3_productOf l D nm tT mS cI v u (by omega) (by omega)) (cwV 2 hts gX3_areProductsSound_X3_productOf rfl rfl rfl (by decide +kernel) ⟨Nat.le_of_ble_eq_true rfl, Nat.le_of_ble_eq_true rfl⟩) ⟨(z_fb1), va_recv hK hP (ci := 5) (q0 := 0) rfl rfl, fun U hU hW => ⟨rfl, by rw [hU]; exact hP, va_K.moved hW.alike hK⟩⟩ rfl rfl hl.1 rfl (lv_room (Nat.le_of_ble_eq_true rfl)) dX3_areProductsSound_9 ⟨Nat.le_of_ble_eq_true rfl, Nat.le_of_ble_eq_true rfl⟩) (fun r9 e9 => ?_)
  subst e9
  have hn9 : np v u < 256 := np_lt (by omega) (by omega)
  refine z_cne (tgt := 38) hx hb (by omega) (by omega) dX3_areProductsSound_12 (by decide) (fun c_12 => ?_) (fun c_12 => ?_)
  · refine lv_iconst (v := nI 0) hx hb dX3_areProductsSound_38 zki_0 ?_
    refine zt (show nI 0 = bI false from rfl) ?_
    exact W.zret (ty := .boolean) hx hb hr (z_narB _) (fun t ht _ => ⟨_, rfl, (congrArg bI (dB_f (fun q => by first | exact c_12 q.1 | exact c_31 q.2)).symm), ht⟩) (fun _ h => nomatch h) dX3_areProductsSound_39
  · refine lv_aload_n hx hb dX3_areProductsSound_15 rfl (lv_at hl 0 rfl) ?_
    refine lv_iload_n hx hb dX3_areProductsSound_16 rfl (lv_at hl 1 rfl) ?_
    refine lv_iload_n hx hb dX3_areProductsSound_17 rfl (lv_at hl 2 rfl) ?_
    refine lv_iconst (v := nI 1) hx hb dX3_areProductsSound_18 zki_1 ?_
    refine z_xor hx hb dX3_areProductsSound_19 ?_
    have hx20 : v ^^^ 1 < 256 := zx8 hv8 (by decide)
    refine z_ci (va_runV (As := [.int (nI u), .int (nI (v ^^^ 1))]) (rest := []) ⟨hx, hb, hml, hown, hts⟩ (c_X3_productOf l D nm tT mS cI u (v ^^^ 1) (by omega) (zx8 hv8 (by decide))) (cwV 2 hts gX3_areProductsSound_X3_productOf rfl rfl rfl (by decide +kernel) ⟨Nat.le_of_ble_eq_true rfl, Nat.le_of_ble_eq_true rfl⟩) ⟨(z_fb1), va_recv hK hP (ci := 5) (q0 := 0) rfl rfl, fun U hU hW => ⟨rfl, by rw [hU]; exact hP, va_K.moved hW.alike hK⟩⟩ rfl rfl hl.1 rfl (lv_room (Nat.le_of_ble_eq_true rfl)) dX3_areProductsSound_20 ⟨Nat.le_of_ble_eq_true rfl, Nat.le_of_ble_eq_true rfl⟩) (fun r20 e20 => ?_)
    subst e20
    have hn20 : np u (v ^^^ 1) < 256 := np_lt (by omega) (by omega)
    refine lv_aload_n hx hb dX3_areProductsSound_23 rfl (lv_at hl 0 rfl) ?_
    refine lv_iload_n hx hb dX3_areProductsSound_24 rfl (lv_at hl 1 rfl) ?_
    refine lv_iload_n hx hb dX3_areProductsSound_25 rfl (lv_at hl 2 rfl) ?_
    refine z_ci (va_runV (As := [.int (nI u), .int (nI v)]) (rest := [.int (nI (np u (v ^^^ 1)))]) ⟨hx, hb, hml, hown, hts⟩ (c_X3_productOf l D nm tT mS cI u v (by omega) (by omega)) (cwV 2 hts gX3_areProductsSound_X3_productOf rfl rfl rfl (by decide +kernel) ⟨Nat.le_of_ble_eq_true rfl, Nat.le_of_ble_eq_true rfl⟩) ⟨(z_fb1), va_recv hK hP (ci := 5) (q0 := 0) rfl rfl, fun U hU hW => ⟨rfl, by rw [hU]; exact hP, va_K.moved hW.alike hK⟩⟩ rfl rfl hl.1 rfl (lv_room (Nat.le_of_ble_eq_true rfl)) dX3_areProductsSound_26 ⟨Nat.le_of_ble_eq_true rfl, Nat.le_of_ble_eq_true rfl⟩) (fun r26 e26 => ?_)
    subst e26
    have hn26 : np u v < 256 := np_lt (by omega) (by omega)
    refine lv_iload_n hx hb dX3_areProductsSound_29 rfl (lv_at hl 1 rfl) ?_
    refine z_xor hx hb dX3_areProductsSound_30 ?_
    have hx31 : np u v ^^^ u < 256 := zx8 hn26 hu
    refine z_cne (tgt := 38) hx hb (by omega) (by omega) dX3_areProductsSound_31 (by decide) (fun c_31 => ?_) (fun c_31 => ?_)
    · refine lv_iconst (v := nI 0) hx hb dX3_areProductsSound_38 zki_0 ?_
      refine zt (show nI 0 = bI false from rfl) ?_
      exact W.zret (ty := .boolean) hx hb hr (z_narB _) (fun t ht _ => ⟨_, rfl, (congrArg bI (dB_f (fun q => by first | exact c_12 q.1 | exact c_31 q.2)).symm), ht⟩) (fun _ h => nomatch h) dX3_areProductsSound_39
    · refine lv_iconst (v := nI 1) hx hb dX3_areProductsSound_34 zki_1 ?_
      refine lv_goto (tgt := 39) hx hb dX3_areProductsSound_35 (by decide) ?_
      refine zt (show nI 1 = bI true from rfl) ?_
      exact W.zret (ty := .boolean) hx hb hr (z_narB _) (fun t ht _ => ⟨_, rfl, (congrArg bI (dB_t (⟨c_12, c_31⟩)).symm), ht⟩) (fun _ h => nomatch h) dX3_areProductsSound_39
abbrev rm_c_X3_areSquaresSound : Room := { frames := 5, cells := 0, slots := 0, locals := 120 }
abbrev q_c_X3_areSquaresSound (D : va_G) (nm : Nat) (tT : Nat) (mS : Nat) (cI : ClassId) (u : Nat) (v : Nat) : Array Value → State → Outcome → State → Prop := vp_Si (fun r => r = (bI (dB (sd3 u v))))
set_option maxHeartbeats 4000000 in
set_option maxRecDepth 100000 in
theorem c_X3_areSquaresSound (l : Launch) (D : va_G) (nm : Nat) (tT : Nat) (mS : Nat) (cI : ClassId) (u : Nat) (v : Nat) (hu : u < 256) (hv8 : v < 256) : Met l yX3_areSquaresSound wsX3_areSquaresSound rm_c_X3_areSquaresSound (va_Pc [.ref nm, .int (nI u), .int (nI v)] (fun U => va_P D vwCl [(nm, .inr (5, [.ref tT, .ref mS])), (tT, .inl (cI, 256, .inl (aN ztab)))] U.heap ∧ va_K D vwCl [(cI, .int)] U)) (q_c_X3_areSquaresSound D nm tT mS cI u v) 0 0 (fun _ => False) := by
  refine Met.ofW (cc := cX3_areSquaresSound) (maxL := 3) (ret := (some .boolean)) (by decide) rfl ?_
  intro p e s m args below meth c s₁ B hml hv
  obtain ⟨hargs, hP, hK⟩ := hv
  have hx := B.exec
  have hb := B.bytes
  have hr := B.returns
  have hts := atoms_spec (ws := wsX3_areSquaresSound) B.pre
  have hown : s.vm.findClass RX3 = some m.cls := findClass_of_methodNamed B.named
  have hlocks := B.notSynchronized
  have hl := lv_entry ([.ref nm, .int (nI u), .int (nI v)]) (n := 3) (Nat.le_of_ble_eq_true rfl)
  refine W.eq (g2 := F0 m 0 (lg_sl ([.ref nm, .int (nI u), .int (nI v)]) ++ List.replicate (3 - (lg_sl ([.ref nm, .int (nI u), .int (nI v)])).length) Slot.unset).toArray []) (by rw [hargs]; exact lg_entry_eq _ _ _) ?_
  generalize (lg_sl ([.ref nm, .int (nI u), .int (nI v)]) ++ List.replicate (3 - (lg_sl ([.ref nm, .int (nI u), .int (nI v)])).length) Slot.unset).toArray = ls at hl ⊢
  have hl : lv_has ls 3 [(0, .ref nm), (1, .int (nI u)), (2, .int (nI v))] := hl
  refine lv_aload_n hx hb dX3_areSquaresSound_0 rfl (lv_at hl 0 rfl) ?_
  refine lv_iload_n hx hb dX3_areSquaresSound_1 rfl (lv_at hl 1 rfl) ?_
  refine lv_iload_n hx hb dX3_areSquaresSound_2 rfl (lv_at hl 2 rfl) ?_
  refine z_xor hx hb dX3_areSquaresSound_3 ?_
  have hx4 : u ^^^ v < 256 := zx8 hu hv8
  refine z_ci (va_runV (As := [.int (nI (u ^^^ v))]) (rest := []) ⟨hx, hb, hml, hown, hts⟩ (c_X3_squareOf l D nm tT mS cI (u ^^^ v) (by omega)) (cwV 1 hts gX3_areSquaresSound_X3_squareOf rfl rfl rfl (by decide +kernel) ⟨Nat.le_of_ble_eq_true rfl, Nat.le_of_ble_eq_true rfl⟩) ⟨(z_fb1), va_recv hK hP (ci := 5) (q0 := 0) rfl rfl, fun U hU hW => ⟨rfl, by rw [hU]; exact hP, va_K.moved hW.alike hK⟩⟩ rfl rfl hl.1 rfl (lv_room (Nat.le_of_ble_eq_true rfl)) dX3_areSquaresSound_4 ⟨Nat.le_of_ble_eq_true rfl, Nat.le_of_ble_eq_true rfl⟩) (fun r4 e4 => ?_)
  subst e4
  have hn4 : np (u ^^^ v) (u ^^^ v) < 256 := np_lt (by omega) (by omega)
  refine lv_aload_n hx hb dX3_areSquaresSound_7 rfl (lv_at hl 0 rfl) ?_
  refine lv_iload_n hx hb dX3_areSquaresSound_8 rfl (lv_at hl 1 rfl) ?_
  refine z_ci (va_runV (As := [.int (nI u)]) (rest := [.int (nI (np (u ^^^ v) (u ^^^ v)))]) ⟨hx, hb, hml, hown, hts⟩ (c_X3_squareOf l D nm tT mS cI u (by omega)) (cwV 1 hts gX3_areSquaresSound_X3_squareOf rfl rfl rfl (by decide +kernel) ⟨Nat.le_of_ble_eq_true rfl, Nat.le_of_ble_eq_true rfl⟩) ⟨(z_fb1), va_recv hK hP (ci := 5) (q0 := 0) rfl rfl, fun U hU hW => ⟨rfl, by rw [hU]; exact hP, va_K.moved hW.alike hK⟩⟩ rfl rfl hl.1 rfl (lv_room (Nat.le_of_ble_eq_true rfl)) dX3_areSquaresSound_9 ⟨Nat.le_of_ble_eq_true rfl, Nat.le_of_ble_eq_true rfl⟩) (fun r9 e9 => ?_)
  subst e9
  have hn9 : np u u < 256 := np_lt (by omega) (by omega)
  refine lv_aload_n hx hb dX3_areSquaresSound_12 rfl (lv_at hl 0 rfl) ?_
  refine lv_iload_n hx hb dX3_areSquaresSound_13 rfl (lv_at hl 2 rfl) ?_
  refine z_ci (va_runV (As := [.int (nI v)]) (rest := [.int (nI (np u u)), .int (nI (np (u ^^^ v) (u ^^^ v)))]) ⟨hx, hb, hml, hown, hts⟩ (c_X3_squareOf l D nm tT mS cI v (by omega)) (cwV 1 hts gX3_areSquaresSound_X3_squareOf rfl rfl rfl (by decide +kernel) ⟨Nat.le_of_ble_eq_true rfl, Nat.le_of_ble_eq_true rfl⟩) ⟨(z_fb1), va_recv hK hP (ci := 5) (q0 := 0) rfl rfl, fun U hU hW => ⟨rfl, by rw [hU]; exact hP, va_K.moved hW.alike hK⟩⟩ rfl rfl hl.1 rfl (lv_room (Nat.le_of_ble_eq_true rfl)) dX3_areSquaresSound_14 ⟨Nat.le_of_ble_eq_true rfl, Nat.le_of_ble_eq_true rfl⟩) (fun r14 e14 => ?_)
  subst e14
  have hn14 : np v v < 256 := np_lt (by omega) (by omega)
  refine z_xor hx hb dX3_areSquaresSound_17 ?_
  have hx18 : np u u ^^^ np v v < 256 := zx8 hn9 hn14
  refine z_cne (tgt := 38) hx hb (by omega) (by omega) dX3_areSquaresSound_18 (by decide) (fun c_18 => ?_) (fun c_18 => ?_)
  · refine lv_iconst (v := nI 0) hx hb dX3_areSquaresSound_38 zki_0 ?_
    refine zt (show nI 0 = bI false from rfl) ?_
    exact W.zret (ty := .boolean) hx hb hr (z_narB _) (fun t ht _ => ⟨_, rfl, (congrArg bI (dB_f (fun q => by first | exact c_18 q.1 | exact c_31 q.2)).symm), ht⟩) (fun _ h => nomatch h) dX3_areSquaresSound_39
  · refine lv_aload_n hx hb dX3_areSquaresSound_21 rfl (lv_at hl 0 rfl) ?_
    refine lv_aload_n hx hb dX3_areSquaresSound_22 rfl (lv_at hl 0 rfl) ?_
    refine lv_iload_n hx hb dX3_areSquaresSound_23 rfl (lv_at hl 1 rfl) ?_
    refine z_ci (va_runV (As := [.int (nI u)]) (rest := [.ref nm]) ⟨hx, hb, hml, hown, hts⟩ (c_X3_rootOf l D nm tT mS cI u (by omega)) (cwV 1 hts gX3_areSquaresSound_X3_rootOf rfl rfl rfl (by decide +kernel) ⟨Nat.le_of_ble_eq_true rfl, Nat.le_of_ble_eq_true rfl⟩) ⟨(z_fb1), va_recv hK hP (ci := 5) (q0 := 0) rfl rfl, fun U hU hW => ⟨rfl, by rw [hU]; exact hP, va_K.moved hW.alike hK⟩⟩ rfl rfl hl.1 rfl (lv_room (Nat.le_of_ble_eq_true rfl)) dX3_areSquaresSound_24 ⟨Nat.le_of_ble_eq_true rfl, Nat.le_of_ble_eq_true rfl⟩) (fun r24 e24 => ?_)
    subst e24
    have hn24 : rt u < 256 := rt_lt (by omega)
    refine z_ci (va_runV (As := [.int (nI (rt u))]) (rest := []) ⟨hx, hb, hml, hown, hts⟩ (c_X3_squareOf l D nm tT mS cI (rt u) (by omega)) (cwV 1 hts gX3_areSquaresSound_X3_squareOf rfl rfl rfl (by decide +kernel) ⟨Nat.le_of_ble_eq_true rfl, Nat.le_of_ble_eq_true rfl⟩) ⟨(z_fb1), va_recv hK hP (ci := 5) (q0 := 0) rfl rfl, fun U hU hW => ⟨rfl, by rw [hU]; exact hP, va_K.moved hW.alike hK⟩⟩ rfl rfl hl.1 rfl (lv_room (Nat.le_of_ble_eq_true rfl)) dX3_areSquaresSound_27 ⟨Nat.le_of_ble_eq_true rfl, Nat.le_of_ble_eq_true rfl⟩) (fun r27 e27 => ?_)
    subst e27
    have hn27 : np (rt u) (rt u) < 256 := np_lt (by omega) (by omega)
    refine lv_iload_n hx hb dX3_areSquaresSound_30 rfl (lv_at hl 1 rfl) ?_
    refine z_cne (tgt := 38) hx hb (by omega) (by omega) dX3_areSquaresSound_31 (by decide) (fun c_31 => ?_) (fun c_31 => ?_)
    · refine lv_iconst (v := nI 0) hx hb dX3_areSquaresSound_38 zki_0 ?_
      refine zt (show nI 0 = bI false from rfl) ?_
      exact W.zret (ty := .boolean) hx hb hr (z_narB _) (fun t ht _ => ⟨_, rfl, (congrArg bI (dB_f (fun q => by first | exact c_18 q.1 | exact c_31 q.2)).symm), ht⟩) (fun _ h => nomatch h) dX3_areSquaresSound_39
    · refine lv_iconst (v := nI 1) hx hb dX3_areSquaresSound_34 zki_1 ?_
      refine lv_goto (tgt := 39) hx hb dX3_areSquaresSound_35 (by decide) ?_
      refine zt (show nI 1 = bI true from rfl) ?_
      exact W.zret (ty := .boolean) hx hb hr (z_narB _) (fun t ht _ => ⟨_, rfl, (congrArg bI (dB_t (⟨c_18, c_31⟩)).symm), ht⟩) (fun _ h => nomatch h) dX3_areSquaresSound_39
abbrev rm_c_X3_isQuotientSound : Room := { frames := 5, cells := 0, slots := 0, locals := 121 }
abbrev q_c_X3_isQuotientSound (D : va_G) (nm : Nat) (tT : Nat) (mS : Nat) (cI : ClassId) (u : Nat) (v : Nat) : Array Value → State → Outcome → State → Prop := vp_Si (fun r => r = (bI (dB (sd4 u v))))
set_option maxHeartbeats 4000000 in
set_option maxRecDepth 100000 in
theorem c_X3_isQuotientSound (l : Launch) (D : va_G) (nm : Nat) (tT : Nat) (mS : Nat) (cI : ClassId) (u : Nat) (v : Nat) (hu : u < 256) (hv8 : v < 256) : Met l yX3_isQuotientSound wsX3_isQuotientSound rm_c_X3_isQuotientSound (va_Pc [.ref nm, .int (nI u), .int (nI v)] (fun U => va_P D vwCl [(nm, .inr (5, [.ref tT, .ref mS])), (tT, .inl (cI, 256, .inl (aN ztab)))] U.heap ∧ va_K D vwCl [(cI, .int)] U)) (q_c_X3_isQuotientSound D nm tT mS cI u v) 0 0 (fun _ => False) := by
  refine Met.ofW (cc := cX3_isQuotientSound) (maxL := 3) (ret := (some .boolean)) (by decide) rfl ?_
  intro p e s m args below meth c s₁ B hml hv
  obtain ⟨hargs, hP, hK⟩ := hv
  have hx := B.exec
  have hb := B.bytes
  have hr := B.returns
  have hts := atoms_spec (ws := wsX3_isQuotientSound) B.pre
  have hown : s.vm.findClass RX3 = some m.cls := findClass_of_methodNamed B.named
  have hlocks := B.notSynchronized
  have hl := lv_entry ([.ref nm, .int (nI u), .int (nI v)]) (n := 3) (Nat.le_of_ble_eq_true rfl)
  refine W.eq (g2 := F0 m 0 (lg_sl ([.ref nm, .int (nI u), .int (nI v)]) ++ List.replicate (3 - (lg_sl ([.ref nm, .int (nI u), .int (nI v)])).length) Slot.unset).toArray []) (by rw [hargs]; exact lg_entry_eq _ _ _) ?_
  generalize (lg_sl ([.ref nm, .int (nI u), .int (nI v)]) ++ List.replicate (3 - (lg_sl ([.ref nm, .int (nI u), .int (nI v)])).length) Slot.unset).toArray = ls at hl ⊢
  have hl : lv_has ls 3 [(0, .ref nm), (1, .int (nI u)), (2, .int (nI v))] := hl
  refine lv_iload_n hx hb dX3_isQuotientSound_0 rfl (lv_at hl 2 rfl) ?_
  refine z_feq (tgt := 19) hx hb (by omega) dX3_isQuotientSound_1 (by decide) (fun c_1 => ?_) (fun c_1 => ?_)
  · refine lv_iconst (v := nI 1) hx hb dX3_isQuotientSound_19 zki_1 ?_
    refine lv_goto (tgt := 24) hx hb dX3_isQuotientSound_20 (by decide) ?_
    refine zt (show nI 1 = bI true from rfl) ?_
    exact W.zret (ty := .boolean) hx hb hr (z_narB _) (fun t ht _ => ⟨_, rfl, (congrArg bI (dB_t (by first | exact Or.inl c_1 | exact Or.inr c_16)).symm), ht⟩) (fun _ h => nomatch h) dX3_isQuotientSound_24
  · refine lv_aload_n hx hb dX3_isQuotientSound_4 rfl (lv_at hl 0 rfl) ?_
    refine lv_aload_n hx hb dX3_isQuotientSound_5 rfl (lv_at hl 0 rfl) ?_
    refine lv_iload_n hx hb dX3_isQuotientSound_6 rfl (lv_at hl 1 rfl) ?_
    refine lv_iload_n hx hb dX3_isQuotientSound_7 rfl (lv_at hl 2 rfl) ?_
    refine z_ci (va_runV (As := [.int (nI u), .int (nI v)]) (rest := [.ref nm]) ⟨hx, hb, hml, hown, hts⟩ (c_X3_quotientOf l D nm tT mS cI u v (by omega) (by omega)) (cwV 2 hts gX3_isQuotientSound_X3_quotientOf rfl rfl rfl (by decide +kernel) ⟨Nat.le_of_ble_eq_true rfl, Nat.le_of_ble_eq_true rfl⟩) ⟨(z_fb1), va_recv hK hP (ci := 5) (q0 := 0) rfl rfl, fun U hU hW => ⟨rfl, by rw [hU]; exact hP, va_K.moved hW.alike hK⟩⟩ rfl rfl hl.1 rfl (lv_room (Nat.le_of_ble_eq_true rfl)) dX3_isQuotientSound_8 ⟨Nat.le_of_ble_eq_true rfl, Nat.le_of_ble_eq_true rfl⟩) (fun r8 e8 => ?_)
    subst e8
    have hn8 : qt u v < 256 := qt_lt (by omega) (by omega)
    refine lv_iload_n hx hb dX3_isQuotientSound_11 rfl (lv_at hl 2 rfl) ?_
    refine z_ci (va_runV (As := [.int (nI (qt u v)), .int (nI v)]) (rest := []) ⟨hx, hb, hml, hown, hts⟩ (c_X3_productOf l D nm tT mS cI (qt u v) v (by omega) (by omega)) (cwV 2 hts gX3_isQuotientSound_X3_productOf rfl rfl rfl (by decide +kernel) ⟨Nat.le_of_ble_eq_true rfl, Nat.le_of_ble_eq_true rfl⟩) ⟨(z_fb1), va_recv hK hP (ci := 5) (q0 := 0) rfl rfl, fun U hU hW => ⟨rfl, by rw [hU]; exact hP, va_K.moved hW.alike hK⟩⟩ rfl rfl hl.1 rfl (lv_room (Nat.le_of_ble_eq_true rfl)) dX3_isQuotientSound_12 ⟨Nat.le_of_ble_eq_true rfl, Nat.le_of_ble_eq_true rfl⟩) (fun r12 e12 => ?_)
    subst e12
    have hn12 : np (qt u v) v < 256 := np_lt (by omega) (by omega)
    refine lv_iload_n hx hb dX3_isQuotientSound_15 rfl (lv_at hl 1 rfl) ?_
    refine z_cne (tgt := 23) hx hb (by omega) (by omega) dX3_isQuotientSound_16 (by decide) (fun c_16 => ?_) (fun c_16 => ?_)
    · refine lv_iconst (v := nI 0) hx hb dX3_isQuotientSound_23 zki_0 ?_
      refine zt (show nI 0 = bI false from rfl) ?_
      exact W.zret (ty := .boolean) hx hb hr (z_narB _) (fun t ht _ => ⟨_, rfl, (congrArg bI (dB_f (fun q => q.elim (fun z => by omega) c_16)).symm), ht⟩) (fun _ h => nomatch h) dX3_isQuotientSound_24
    · refine lv_iconst (v := nI 1) hx hb dX3_isQuotientSound_19 zki_1 ?_
      refine lv_goto (tgt := 24) hx hb dX3_isQuotientSound_20 (by decide) ?_
      refine zt (show nI 1 = bI true from rfl) ?_
      exact W.zret (ty := .boolean) hx hb hr (z_narB _) (fun t ht _ => ⟨_, rfl, (congrArg bI (dB_t (by first | exact Or.inl c_1 | exact Or.inr c_16)).symm), ht⟩) (fun _ h => nomatch h) dX3_isQuotientSound_24
abbrev rm_c_X3_areTracesSound : Room := { frames := 4, cells := 0, slots := 0, locals := 98 }
abbrev q_c_X3_areTracesSound (D : va_G) (nm : Nat) (tT : Nat) (mS : Nat) (cI : ClassId) (u : Nat) (v : Nat) : Array Value → State → Outcome → State → Prop := vp_Si (fun r => r = (bI (dB (sd5 u v))))
set_option maxHeartbeats 4000000 in
set_option maxRecDepth 100000 in
theorem c_X3_areTracesSound (l : Launch) (D : va_G) (nm : Nat) (tT : Nat) (mS : Nat) (cI : ClassId) (u : Nat) (v : Nat) (hu : u < 256) (hv8 : v < 256) : Met l yX3_areTracesSound wsX3_areTracesSound rm_c_X3_areTracesSound (va_Pc [.ref nm, .int (nI u), .int (nI v)] (fun U => va_P D vwCl [(nm, .inr (5, [.ref tT, .ref mS])), (tT, .inl (cI, 256, .inl (aN ztab)))] U.heap ∧ va_K D vwCl [(cI, .int)] U)) (q_c_X3_areTracesSound D nm tT mS cI u v) 0 0 (fun _ => False) := by
  refine Met.ofW (cc := cX3_areTracesSound) (maxL := 3) (ret := (some .boolean)) (by decide) rfl ?_
  intro p e s m args below meth c s₁ B hml hv
  obtain ⟨hargs, hP, hK⟩ := hv
  have hx := B.exec
  have hb := B.bytes
  have hr := B.returns
  have hts := atoms_spec (ws := wsX3_areTracesSound) B.pre
  have hown : s.vm.findClass RX3 = some m.cls := findClass_of_methodNamed B.named
  have hlocks := B.notSynchronized
  have hl := lv_entry ([.ref nm, .int (nI u), .int (nI v)]) (n := 3) (Nat.le_of_ble_eq_true rfl)
  refine W.eq (g2 := F0 m 0 (lg_sl ([.ref nm, .int (nI u), .int (nI v)]) ++ List.replicate (3 - (lg_sl ([.ref nm, .int (nI u), .int (nI v)])).length) Slot.unset).toArray []) (by rw [hargs]; exact lg_entry_eq _ _ _) ?_
  generalize (lg_sl ([.ref nm, .int (nI u), .int (nI v)]) ++ List.replicate (3 - (lg_sl ([.ref nm, .int (nI u), .int (nI v)])).length) Slot.unset).toArray = ls at hl ⊢
  have hl : lv_has ls 3 [(0, .ref nm), (1, .int (nI u)), (2, .int (nI v))] := hl
  refine lv_aload_n hx hb dX3_areTracesSound_0 rfl (lv_at hl 0 rfl) ?_
  refine lv_iload_n hx hb dX3_areTracesSound_1 rfl (lv_at hl 1 rfl) ?_
  refine lv_iload_n hx hb dX3_areTracesSound_2 rfl (lv_at hl 2 rfl) ?_
  refine z_xor hx hb dX3_areTracesSound_3 ?_
  have hx4 : u ^^^ v < 256 := zx8 hu hv8
  refine z_ci (va_runV (As := [.int (nI (u ^^^ v))]) (rest := []) ⟨hx, hb, hml, hown, hts⟩ (c_X3_traceOf l D nm tT mS cI (u ^^^ v) (by omega)) (cwV 1 hts gX3_areTracesSound_X3_traceOf rfl rfl rfl (by decide +kernel) ⟨Nat.le_of_ble_eq_true rfl, Nat.le_of_ble_eq_true rfl⟩) ⟨(z_fb1), va_recv hK hP (ci := 5) (q0 := 0) rfl rfl, fun U hU hW => ⟨rfl, by rw [hU]; exact hP, va_K.moved hW.alike hK⟩⟩ rfl rfl hl.1 rfl (lv_room (Nat.le_of_ble_eq_true rfl)) dX3_areTracesSound_4 ⟨Nat.le_of_ble_eq_true rfl, Nat.le_of_ble_eq_true rfl⟩) (fun r4 e4 => ?_)
  subst e4
  have hn4 : tr (u ^^^ v) < 256 := tr_lt (by omega)
  refine lv_aload_n hx hb dX3_areTracesSound_7 rfl (lv_at hl 0 rfl) ?_
  refine lv_iload_n hx hb dX3_areTracesSound_8 rfl (lv_at hl 1 rfl) ?_
  refine z_ci (va_runV (As := [.int (nI u)]) (rest := [.int (nI (tr (u ^^^ v)))]) ⟨hx, hb, hml, hown, hts⟩ (c_X3_traceOf l D nm tT mS cI u (by omega)) (cwV 1 hts gX3_areTracesSound_X3_traceOf rfl rfl rfl (by decide +kernel) ⟨Nat.le_of_ble_eq_true rfl, Nat.le_of_ble_eq_true rfl⟩) ⟨(z_fb1), va_recv hK hP (ci := 5) (q0 := 0) rfl rfl, fun U hU hW => ⟨rfl, by rw [hU]; exact hP, va_K.moved hW.alike hK⟩⟩ rfl rfl hl.1 rfl (lv_room (Nat.le_of_ble_eq_true rfl)) dX3_areTracesSound_9 ⟨Nat.le_of_ble_eq_true rfl, Nat.le_of_ble_eq_true rfl⟩) (fun r9 e9 => ?_)
  subst e9
  have hn9 : tr u < 256 := tr_lt (by omega)
  refine lv_aload_n hx hb dX3_areTracesSound_12 rfl (lv_at hl 0 rfl) ?_
  refine lv_iload_n hx hb dX3_areTracesSound_13 rfl (lv_at hl 2 rfl) ?_
  refine z_ci (va_runV (As := [.int (nI v)]) (rest := [.int (nI (tr u)), .int (nI (tr (u ^^^ v)))]) ⟨hx, hb, hml, hown, hts⟩ (c_X3_traceOf l D nm tT mS cI v (by omega)) (cwV 1 hts gX3_areTracesSound_X3_traceOf rfl rfl rfl (by decide +kernel) ⟨Nat.le_of_ble_eq_true rfl, Nat.le_of_ble_eq_true rfl⟩) ⟨(z_fb1), va_recv hK hP (ci := 5) (q0 := 0) rfl rfl, fun U hU hW => ⟨rfl, by rw [hU]; exact hP, va_K.moved hW.alike hK⟩⟩ rfl rfl hl.1 rfl (lv_room (Nat.le_of_ble_eq_true rfl)) dX3_areTracesSound_14 ⟨Nat.le_of_ble_eq_true rfl, Nat.le_of_ble_eq_true rfl⟩) (fun r14 e14 => ?_)
  subst e14
  have hn14 : tr v < 256 := tr_lt (by omega)
  refine z_xor hx hb dX3_areTracesSound_17 ?_
  have hx18 : tr u ^^^ tr v < 256 := zx8 hn9 hn14
  refine z_cne (tgt := 25) hx hb (by omega) (by omega) dX3_areTracesSound_18 (by decide) (fun c_18 => ?_) (fun c_18 => ?_)
  · refine lv_iconst (v := nI 0) hx hb dX3_areTracesSound_25 zki_0 ?_
    refine zt (show nI 0 = bI false from rfl) ?_
    exact W.zret (ty := .boolean) hx hb hr (z_narB _) (fun t ht _ => ⟨_, rfl, (congrArg bI (dB_f (fun q => by first | exact c_18 q)).symm), ht⟩) (fun _ h => nomatch h) dX3_areTracesSound_26
  · refine lv_iconst (v := nI 1) hx hb dX3_areTracesSound_21 zki_1 ?_
    refine lv_goto (tgt := 26) hx hb dX3_areTracesSound_22 (by decide) ?_
    refine zt (show nI 1 = bI true from rfl) ?_
    exact W.zret (ty := .boolean) hx hb hr (z_narB _) (fun t ht _ => ⟨_, rfl, (congrArg bI (dB_t (c_18)).symm), ht⟩) (fun _ h => nomatch h) dX3_areTracesSound_26
