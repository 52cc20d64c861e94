def fdo (u : Nat) : Nat := if u < 2 then 2 else if u < 4 then 4 else if u < 16 then 16 else 256
def sd1 (u v : Nat) : Prop := ts u v = u ^^^ v ∧ tp (u % 16) (v % 16) = np (u % 16) (v % 16)
def sd2 (u v : Nat) : Prop := np u v = np v u ∧ np u (v ^^^ 1) = np u v ^^^ u
def sd3 (u v : Nat) : Prop := np (u ^^^ v) (u ^^^ v) = np u u ^^^ np v v ∧ np (rt u) (rt u) = u
def sd4 (u v : Nat) : Prop := v = 0 ∨ np (qt u v) v = u
def sd5 (u v : Nat) : Prop := tr (u ^^^ v) = tr u ^^^ tr v
theorem nX3_smallProduct_inX3 : ∀ w ∈ u_ws RX3 TX3 2, w ∈ wsX3_smallProduct := by decide +kernel
theorem nX3_sumByTrying_inX3 : ∀ w ∈ u_ws RX3 TX3 2, w ∈ wsX3_sumByTrying := by decide +kernel
theorem nX3_productByTrying_inX3 : ∀ w ∈ u_ws RX3 TX3 2, w ∈ wsX3_productByTrying := by decide +kernel
abbrev rm_c_X3_smallProduct : Room := { frames := 0, cells := 0, slots := 0, locals := 0 }
abbrev q_c_X3_smallProduct (D : va_G) (nm : Nat) (tT : Nat) (mS : Nat) (cI : ClassId) (f : Nat → Nat) (u : Nat) (v : Nat) : Array Value → State → Outcome → State → Prop := vp_Si (fun r => r = (nI (f (16 * u + v))))
set_option maxHeartbeats 4000000 in
set_option maxRecDepth 100000 in
theorem c_X3_smallProduct (l : Launch) (D : va_G) (nm : Nat) (tT : Nat) (mS : Nat) (cI : ClassId) (f : Nat → Nat) (u : Nat) (v : Nat) (hu : u < 16) (hv8 : v < 16) : Met l yX3_smallProduct wsX3_smallProduct rm_c_X3_smallProduct (va_Pc [.ref nm, .int (nI u), .int (nI v)] (fun U => va_P D vwCl [(nm, .inr (5, [.ref tT, .ref mS])), (tT, .inl (cI, 256, .inl (aN f)))] U.heap ∧ va_K D vwCl [(cI, .int)] U)) (q_c_X3_smallProduct D nm tT mS cI f u v) 0 0 (fun _ => False) := by
  refine Met.ofW (cc := cX3_smallProduct) (maxL := 4) (ret := (some .int)) (by decide) rfl ?_
  intro p e s m args below meth c s₁ B hml hv
  obtain ⟨hargs, hP, hK⟩ := hv
  have hx := B.exec
  have hb := B.bytes
  have hr := B.returns
  have hts := atoms_spec (ws := wsX3_smallProduct) B.pre
  have hown : s.vm.findClass RX3 = some m.cls := findClass_of_methodNamed B.named
  have hlocks := B.notSynchronized
  have hl := lv_entry ([.ref nm, .int (nI u), .int (nI v)]) (n := 4) (Nat.le_of_ble_eq_true rfl)
  refine W.eq (g2 := F0 m 0 (lg_sl ([.ref nm, .int (nI u), .int (nI v)]) ++ List.replicate (4 - (lg_sl ([.ref nm, .int (nI u), .int (nI v)])).length) Slot.unset).toArray []) (by rw [hargs]; exact lg_entry_eq _ _ _) ?_
  generalize (lg_sl ([.ref nm, .int (nI u), .int (nI v)]) ++ List.replicate (4 - (lg_sl ([.ref nm, .int (nI u), .int (nI v)])).length) Slot.unset).toArray = ls at hl ⊢
  have hl : lv_has ls 4 [(0, .ref nm), (1, .int (nI u)), (2, .int (nI v))] := hl
  refine lv_iload_n hx hb dX3_smallProduct_0 rfl (lv_at hl 1 rfl) ?_
  refine z_flt (tgt := 24) hx hb (by omega) dX3_smallProduct_1 (by decide) ?_
  refine lv_iload_n hx hb dX3_smallProduct_4 rfl (lv_at hl 1 rfl) ?_
  refine lv_bipush (v := nI 16) hx hb dX3_smallProduct_5 zkb_16 ?_
  refine z_cge (tgt := 24) hx hb (by omega) (by omega) dX3_smallProduct_7 (by decide) (fun c_7 => absurd c_7 (by omega)) (fun c_7 => ?_)
  refine lv_iload_n hx hb dX3_smallProduct_10 rfl (lv_at hl 2 rfl) ?_
  refine z_flt (tgt := 24) hx hb (by omega) dX3_smallProduct_11 (by decide) ?_
  refine lv_iload_n hx hb dX3_smallProduct_14 rfl (lv_at hl 2 rfl) ?_
  refine lv_bipush (v := nI 16) hx hb dX3_smallProduct_15 zkb_16 ?_
  refine z_cge (tgt := 24) hx hb (by omega) (by omega) dX3_smallProduct_17 (by decide) (fun c_17 => absurd c_17 (by omega)) (fun c_17 => ?_)
  refine lv_iconst (v := nI 1) hx hb dX3_smallProduct_20 zki_1 ?_
  refine lv_goto (tgt := 25) hx hb dX3_smallProduct_21 (by decide) ?_
  refine lv_istore_n (lv' := [(3, .int (nI 1)), (0, .ref nm), (1, .int (nI u)), (2, .int (nI v))]) hx hb dX3_smallProduct_25 rfl hl (by decide) rfl (fun ls hl => ?_)
  refine lv_iload_n hx hb dX3_smallProduct_26 rfl (lv_at hl 0 rfl) ?_
  refine z_feq (tgt := 44) hx hb (by omega) dX3_smallProduct_27 (by decide) (fun c_27 => absurd c_27 (by decide)) (fun c_27 => ?_)
  refine lv_aload_n hx hb dX3_smallProduct_30 rfl (lv_at hl 1 rfl) ?_
  refine va_get (D := D) (ci := 5) (v := .ref tT) (C := RX3) (T := TX3) (N := 2) hx hb hts nX3_smallProduct_inX3 hown hK hP 0 rfl rfl 0 (by decide) (hts (.fieldLink RX3 11 "Gamefield$Numbers" "smallProducts" "[I") (by decide +kernel)) (fun _ h9 => h9) rfl dX3_smallProduct_31 ?_
  refine lv_bipush (v := nI 16) hx hb dX3_smallProduct_34 zkb_16 ?_
  refine lv_iload_n hx hb dX3_smallProduct_36 rfl (lv_at hl 2 rfl) ?_
  refine z_mul hx hb dX3_smallProduct_37 ?_
  refine lv_iload_n hx hb dX3_smallProduct_38 rfl (lv_at hl 3 rfl) ?_
  refine z_add hx hb dX3_smallProduct_39 ?_
  refine z_iald hx hb hK hP 1 0 rfl rfl (by omega) (by decide) dX3_smallProduct_40 ?_
  refine lv_goto (tgt := 45) hx hb dX3_smallProduct_41 (by decide) ?_
  exact W.iret hx hb hr (fun t ht _ => ⟨_, rfl, (rfl), ht⟩) (fun _ h => nomatch h) dX3_smallProduct_45
abbrev rm_c_X3_productOf_g : Room := { frames := 1, cells := 0, slots := 0, locals := 23 }
abbrev q_c_X3_productOf_g (D : va_G) (nm : Nat) (tT : Nat) (mS : Nat) (cI : ClassId) (f : Nat → Nat) (u : Nat) (v : Nat) : Array Value → State → Outcome → State → Prop := vp_Si (fun r => r = (nI (npT f u v)))
set_option maxHeartbeats 4000000 in
set_option maxRecDepth 100000 in
theorem c_X3_productOf_g (l : Launch) (D : va_G) (nm : Nat) (tT : Nat) (mS : Nat) (cI : ClassId) (f : Nat → Nat) (u : Nat) (v : Nat) (hu : u < 256) (hv8 : v < 256) (hf : ∀ k, f k < 16) : Met l yX3_productOf wsX3_productOf rm_c_X3_productOf_g (va_Pc [.ref nm, .int (nI u), .int (nI v)] (fun U => va_P D vwCl [(nm, .inr (5, [.ref tT, .ref mS])), (tT, .inl (cI, 256, .inl (aN f)))] U.heap ∧ va_K D vwCl [(cI, .int)] U)) (q_c_X3_productOf_g D nm tT mS cI f u v) 0 0 (fun _ => False) := by
  refine Met.ofW (cc := cX3_productOf) (maxL := 11) (ret := (some .int)) (by decide) rfl ?_
  intro p e s m args below meth c s₁ B hml hv
  obtain ⟨hargs, hP, hK⟩ := hv
  have hx := B.exec
  have hb := B.bytes
  have hr := B.returns
  have hts := atoms_spec (ws := wsX3_productOf) B.pre
  have hown : s.vm.findClass RX3 = some m.cls := findClass_of_methodNamed B.named
  have hlocks := B.notSynchronized
  have hl := lv_entry ([.ref nm, .int (nI u), .int (nI v)]) (n := 11) (Nat.le_of_ble_eq_true rfl)
  refine W.eq (g2 := F0 m 0 (lg_sl ([.ref nm, .int (nI u), .int (nI v)]) ++ List.replicate (11 - (lg_sl ([.ref nm, .int (nI u), .int (nI v)])).length) Slot.unset).toArray []) (by rw [hargs]; exact lg_entry_eq _ _ _) ?_
  generalize (lg_sl ([.ref nm, .int (nI u), .int (nI v)]) ++ List.replicate (11 - (lg_sl ([.ref nm, .int (nI u), .int (nI v)])).length) Slot.unset).toArray = ls at hl ⊢
  have hl : lv_has ls 11 [(0, .ref nm), (1, .int (nI u)), (2, .int (nI v))] := hl
  refine lv_iload_n hx hb dX3_productOf_0 rfl (lv_at hl 1 rfl) ?_
  refine lv_iconst (v := nI 2) hx hb dX3_productOf_1 zki_2 ?_
  refine z_clt (tgt := 10) hx hb (by omega) (by omega) dX3_productOf_2 (by decide) (fun c_2 => ?_) (fun c_2 => ?_)
  · refine lv_iload_n hx hb dX3_productOf_10 rfl (lv_at hl 1 rfl) ?_
    refine lv_iload_n hx hb dX3_productOf_11 rfl (lv_at hl 2 rfl) ?_
    refine z_mul hx hb dX3_productOf_12 ?_
    exact W.iret hx hb hr (fun t ht _ => ⟨_, rfl, (by rw [npT, if_pos (by omega)]), ht⟩) (fun _ h => nomatch h) dX3_productOf_13
  · refine lv_iload_n hx hb dX3_productOf_5 rfl (lv_at hl 2 rfl) ?_
    refine lv_iconst (v := nI 2) hx hb dX3_productOf_6 zki_2 ?_
    refine z_cge (tgt := 14) hx hb (by omega) (by omega) dX3_productOf_7 (by decide) (fun c_7 => ?_) (fun c_7 => ?_)
    · have cut_24 : ∀  (mx : Nat) (hm : mx = zm u v) (ls : Array Slot) (hl : lv_has ls 11 [(0, .ref nm), (1, .int (nI u)), (2, .int (nI v))]), W p l e (headSpec wsX3_productOf rm_c_X3_productOf_g).room s m args below meth c s.heap [] 0 0 (MQ below (q_c_X3_productOf_g D nm tT mS cI f u v) args s 0 0 (fun _ => False)) (F0 m 24 ls [.int (nI mx)]) := by
        intro mx hm ls hl
        have hmx : mx < 256 := by rw [hm, zm]; split <;> omega
        refine lv_istore_n (lv' := [(3, .int (nI mx)), (0, .ref nm), (1, .int (nI u)), (2, .int (nI v))]) hx hb dX3_productOf_24 rfl hl (by decide) rfl (fun ls hl => ?_)
        have cut_46 : ∀  (F : Nat) (hF : F = zf (zm u v)) (ls : Array Slot) (hl : lv_has ls 11 [(0, .ref nm), (1, .int (nI u)), (2, .int (nI v)), (3, .int (nI mx))]), W p l e (headSpec wsX3_productOf rm_c_X3_productOf_g).room s m args below meth c s.heap [] 0 0 (MQ below (q_c_X3_productOf_g D nm tT mS cI f u v) args s 0 0 (fun _ => False)) (F0 m 46 ls [.int (nI F)]) := by
          intro F hF ls hl
          obtain ⟨hF3, hb1, hb2, hb3, hb4, hb5⟩ := zf_b hu hv8 hF
          have hF0 : 0 < F ∧ F < 256 := by omega
          refine lv_istore (lv' := [(4, .int (nI F)), (0, .ref nm), (1, .int (nI u)), (2, .int (nI v)), (3, .int (nI mx))]) hx hb dX3_productOf_46 hl (by decide) rfl (fun ls hl => ?_)
          refine lv_iload_n hx hb dX3_productOf_48 rfl (lv_at hl 2 rfl) ?_
          refine lv_iload hx hb dX3_productOf_49 (lv_at hl 0 rfl) ?_
          refine z_div hx hb (by omega) (by omega) (by omega) dX3_productOf_51 ?_
          refine lv_istore (lv' := [(5, .int (nI (u / F))), (4, .int (nI F)), (0, .ref nm), (1, .int (nI u)), (2, .int (nI v)), (3, .int (nI mx))]) hx hb dX3_productOf_52 hl (by decide) rfl (fun ls hl => ?_)
          refine lv_iload_n hx hb dX3_productOf_54 rfl (lv_at hl 3 rfl) ?_
          refine lv_iload hx hb dX3_productOf_55 (lv_at hl 1 rfl) ?_
          refine z_rem hx hb (by omega) (by omega) (by omega) dX3_productOf_57 ?_
          refine lv_istore (lv' := [(6, .int (nI (u % F))), (5, .int (nI (u / F))), (4, .int (nI F)), (0, .ref nm), (1, .int (nI u)), (2, .int (nI v)), (3, .int (nI mx))]) hx hb dX3_productOf_58 hl (by decide) rfl (fun ls hl => ?_)
          refine lv_iload_n hx hb dX3_productOf_60 rfl (lv_at hl 5 rfl) ?_
          refine lv_iload hx hb dX3_productOf_61 (lv_at hl 2 rfl) ?_
          refine z_div hx hb (by omega) (by omega) (by omega) dX3_productOf_63 ?_
          refine lv_istore (lv' := [(7, .int (nI (v / F))), (6, .int (nI (u % F))), (5, .int (nI (u / F))), (4, .int (nI F)), (0, .ref nm), (1, .int (nI u)), (2, .int (nI v)), (3, .int (nI mx))]) hx hb dX3_productOf_64 hl (by decide) rfl (fun ls hl => ?_)
          refine lv_iload_n hx hb dX3_productOf_66 rfl (lv_at hl 6 rfl) ?_
          refine lv_iload hx hb dX3_productOf_67 (lv_at hl 3 rfl) ?_
          refine z_rem hx hb (by omega) (by omega) (by omega) dX3_productOf_69 ?_
          refine lv_istore (lv' := [(8, .int (nI (v % F))), (7, .int (nI (v / F))), (6, .int (nI (u % F))), (5, .int (nI (u / F))), (4, .int (nI F)), (0, .ref nm), (1, .int (nI u)), (2, .int (nI v)), (3, .int (nI mx))]) hx hb dX3_productOf_70 hl (by decide) rfl (fun ls hl => ?_)
          refine lv_aload_n hx hb dX3_productOf_72 rfl (lv_at hl 5 rfl) ?_
          refine lv_iload hx hb dX3_productOf_73 (lv_at hl 3 rfl) ?_
          refine lv_iload hx hb dX3_productOf_75 (lv_at hl 1 rfl) ?_
          refine z_ci (va_runV (As := [.int (nI (u / F)), .int (nI (v / F))]) (rest := []) ⟨hx, hb, hml, hown, hts⟩ (c_X3_smallProduct l D nm tT mS cI f (u / F) (v / F) (by omega) (by omega)) (cwV 2 hts gX3_productOf_X3_smallProduct rfl rfl rfl (by decide +kernel) ⟨Nat.le_of_ble_eq_true rfl, Nat.le_of_ble_eq_true rfl⟩) ⟨(z_fb1), va_recv hK hP (ci := 5) (q0 := 0) rfl rfl, fun U hU hW => ⟨rfl, by rw [hU]; exact hP, va_K.moved hW.alike hK⟩⟩ rfl rfl hl.1 rfl (lv_room (Nat.le_of_ble_eq_true rfl)) dX3_productOf_77 ⟨Nat.le_of_ble_eq_true rfl, Nat.le_of_ble_eq_true rfl⟩) (fun r77 e77 => ?_)
          subst e77
          refine lv_istore (lv' := [(9, .int (nI (f (16 * (u / F) + (v / F))))), (8, .int (nI (v % F))), (7, .int (nI (v / F))), (6, .int (nI (u % F))), (5, .int (nI (u / F))), (4, .int (nI F)), (0, .ref nm), (1, .int (nI u)), (2, .int (nI v)), (3, .int (nI mx))]) hx hb dX3_productOf_80 hl (by decide) rfl (fun ls hl => ?_)
          refine lv_iload hx hb dX3_productOf_82 (lv_at hl 0 rfl) ?_
          refine lv_aload_n hx hb dX3_productOf_84 rfl (lv_at hl 6 rfl) ?_
          refine lv_iload hx hb dX3_productOf_85 (lv_at hl 4 rfl) ?_
          refine lv_iload hx hb dX3_productOf_87 (lv_at hl 1 rfl) ?_
          refine z_ci (va_runV (As := [.int (nI (u / F)), .int (nI (v % F))]) (rest := [.int (nI (f (16 * (u / F) + (v / F))))]) ⟨hx, hb, hml, hown, hts⟩ (c_X3_smallProduct l D nm tT mS cI f (u / F) (v % F) (by omega) (by omega)) (cwV 2 hts gX3_productOf_X3_smallProduct rfl rfl rfl (by decide +kernel) ⟨Nat.le_of_ble_eq_true rfl, Nat.le_of_ble_eq_true rfl⟩) ⟨(z_fb1), va_recv hK hP (ci := 5) (q0 := 0) rfl rfl, fun U hU hW => ⟨rfl, by rw [hU]; exact hP, va_K.moved hW.alike hK⟩⟩ rfl rfl hl.1 rfl (lv_room (Nat.le_of_ble_eq_true rfl)) dX3_productOf_89 ⟨Nat.le_of_ble_eq_true rfl, Nat.le_of_ble_eq_true rfl⟩) (fun r89 e89 => ?_)
          subst e89
          refine z_xor hx hb dX3_productOf_92 ?_
          refine lv_aload_n hx hb dX3_productOf_93 rfl (lv_at hl 6 rfl) ?_
          refine lv_iload hx hb dX3_productOf_94 (lv_at hl 3 rfl) ?_
          refine lv_iload hx hb dX3_productOf_96 (lv_at hl 2 rfl) ?_
          refine z_ci (va_runV (As := [.int (nI (u % F)), .int (nI (v / F))]) (rest := [.int (nI ((f (16 * (u / F) + (v / F))) ^^^ (f (16 * (u / F) + (v % F)))))]) ⟨hx, hb, hml, hown, hts⟩ (c_X3_smallProduct l D nm tT mS cI f (u % F) (v / F) (by omega) (by omega)) (cwV 2 hts gX3_productOf_X3_smallProduct rfl rfl rfl (by decide +kernel) ⟨Nat.le_of_ble_eq_true rfl, Nat.le_of_ble_eq_true rfl⟩) ⟨(z_fb1), va_recv hK hP (ci := 5) (q0 := 0) rfl rfl, fun U hU hW => ⟨rfl, by rw [hU]; exact hP, va_K.moved hW.alike hK⟩⟩ rfl rfl hl.1 rfl (lv_room (Nat.le_of_ble_eq_true rfl)) dX3_productOf_98 ⟨Nat.le_of_ble_eq_true rfl, Nat.le_of_ble_eq_true rfl⟩) (fun r98 e98 => ?_)
          subst e98
          refine z_xor hx hb dX3_productOf_101 ?_
          refine lv_istore (lv' := [(10, .int (nI (((f (16 * (u / F) + (v / F))) ^^^ (f (16 * (u / F) + (v % F)))) ^^^ (f (16 * (u % F) + (v / F)))))), (9, .int (nI (f (16 * (u / F) + (v / F))))), (8, .int (nI (v % F))), (7, .int (nI (v / F))), (6, .int (nI (u % F))), (5, .int (nI (u / F))), (4, .int (nI F)), (0, .ref nm), (1, .int (nI u)), (2, .int (nI v)), (3, .int (nI mx))]) hx hb dX3_productOf_102 hl (by decide) rfl (fun ls hl => ?_)
          refine lv_iload hx hb dX3_productOf_104 (lv_at hl 6 rfl) ?_
          refine lv_iload hx hb dX3_productOf_106 (lv_at hl 0 rfl) ?_
          refine z_mul hx hb dX3_productOf_108 ?_
          refine lv_aload_n hx hb dX3_productOf_109 rfl (lv_at hl 7 rfl) ?_
          refine lv_iload hx hb dX3_productOf_110 (lv_at hl 4 rfl) ?_
          refine lv_iload hx hb dX3_productOf_112 (lv_at hl 2 rfl) ?_
          refine z_ci (va_runV (As := [.int (nI (u % F)), .int (nI (v % F))]) (rest := [.int (nI (F * (((f (16 * (u / F) + (v / F))) ^^^ (f (16 * (u / F) + (v % F)))) ^^^ (f (16 * (u % F) + (v / F))))))]) ⟨hx, hb, hml, hown, hts⟩ (c_X3_smallProduct l D nm tT mS cI f (u % F) (v % F) (by omega) (by omega)) (cwV 2 hts gX3_productOf_X3_smallProduct rfl rfl rfl (by decide +kernel) ⟨Nat.le_of_ble_eq_true rfl, Nat.le_of_ble_eq_true rfl⟩) ⟨(z_fb1), va_recv hK hP (ci := 5) (q0 := 0) rfl rfl, fun U hU hW => ⟨rfl, by rw [hU]; exact hP, va_K.moved hW.alike hK⟩⟩ rfl rfl hl.1 rfl (lv_room (Nat.le_of_ble_eq_true rfl)) dX3_productOf_114 ⟨Nat.le_of_ble_eq_true rfl, Nat.le_of_ble_eq_true rfl⟩) (fun r114 e114 => ?_)
          subst e114
          refine z_xor hx hb dX3_productOf_117 ?_
          refine lv_aload_n hx hb dX3_productOf_118 rfl (lv_at hl 7 rfl) ?_
          refine lv_iload hx hb dX3_productOf_119 (lv_at hl 1 rfl) ?_
          refine lv_iload hx hb dX3_productOf_121 (lv_at hl 6 rfl) ?_
          refine lv_iconst (v := nI 2) hx hb dX3_productOf_123 zki_2 ?_
          refine z_div hx hb (by omega) (by omega) (by omega) dX3_productOf_124 ?_
          refine z_ci (va_runV (As := [.int (nI (f (16 * (u / F) + (v / F)))), .int (nI (F / 2))]) (rest := [.int (nI ((F * (((f (16 * (u / F) + (v / F))) ^^^ (f (16 * (u / F) + (v % F)))) ^^^ (f (16 * (u % F) + (v / F))))) ^^^ (f (16 * (u % F) + (v % F)))))]) ⟨hx, hb, hml, hown, hts⟩ (c_X3_smallProduct l D nm tT mS cI f (f (16 * (u / F) + (v / F))) (F / 2) (hf _) (hb5)) (cwV 2 hts gX3_productOf_X3_smallProduct rfl rfl rfl (by decide +kernel) ⟨Nat.le_of_ble_eq_true rfl, Nat.le_of_ble_eq_true rfl⟩) ⟨(z_fb1), va_recv hK hP (ci := 5) (q0 := 0) rfl rfl, fun U hU hW => ⟨rfl, by rw [hU]; exact hP, va_K.moved hW.alike hK⟩⟩ rfl rfl hl.1 rfl (lv_room (Nat.le_of_ble_eq_true rfl)) dX3_productOf_125 ⟨Nat.le_of_ble_eq_true rfl, Nat.le_of_ble_eq_true rfl⟩) (fun r125 e125 => ?_)
          subst e125
          refine z_xor hx hb dX3_productOf_128 ?_
          exact W.iret hx hb hr (fun t ht _ => ⟨_, rfl, (by rw [npT, if_neg (by omega), ← hF]), ht⟩) (fun _ h => nomatch h) dX3_productOf_129
        refine lv_iload_n hx hb dX3_productOf_25 rfl (lv_at hl 0 rfl) ?_
        refine lv_bipush (v := nI 16) hx hb dX3_productOf_26 zkb_16 ?_
        refine z_clt (tgt := 36) hx hb (by omega) (by omega) dX3_productOf_28 (by decide) (fun c_28 => ?_) (fun c_28 => ?_)
        · refine lv_iload_n hx hb dX3_productOf_36 rfl (lv_at hl 0 rfl) ?_
          refine lv_iconst (v := nI 4) hx hb dX3_productOf_37 zki_4 ?_
          refine z_clt (tgt := 45) hx hb (by omega) (by omega) dX3_productOf_38 (by decide) (fun c_38 => ?_) (fun c_38 => ?_)
          · refine lv_iconst (v := nI 2) hx hb dX3_productOf_45 zki_2 ?_
            exact cut_46 2 (by rw [← hm, zf, if_neg (by omega), if_neg (by omega)]) ls (lv_sub hl [1, 2, 3, 0] rfl)
          · refine lv_iconst (v := nI 4) hx hb dX3_productOf_41 zki_4 ?_
            refine lv_goto (tgt := 46) hx hb dX3_productOf_42 (by decide) ?_
            exact cut_46 4 (by rw [← hm, zf, if_neg (by omega), if_pos c_38]) ls (lv_sub hl [1, 2, 3, 0] rfl)
        · refine lv_bipush (v := nI 16) hx hb dX3_productOf_31 zkb_16 ?_
          refine lv_goto (tgt := 46) hx hb dX3_productOf_33 (by decide) ?_
          exact cut_46 16 (by rw [← hm, zf, if_pos c_28]) ls (lv_sub hl [1, 2, 3, 0] rfl)
      refine lv_iload_n hx hb dX3_productOf_14 rfl (lv_at hl 1 rfl) ?_
      refine lv_iload_n hx hb dX3_productOf_15 rfl (lv_at hl 2 rfl) ?_
      refine z_cle (tgt := 23) hx hb (by omega) (by omega) dX3_productOf_16 (by decide) (fun c_16 => ?_) (fun c_16 => ?_)
      · refine lv_iload_n hx hb dX3_productOf_23 rfl (lv_at hl 2 rfl) ?_
        exact cut_24 v (by rw [zm, if_neg (by omega)]) ls (lv_sub hl [0, 1, 2] rfl)
      · refine lv_iload_n hx hb dX3_productOf_19 rfl (lv_at hl 1 rfl) ?_
        refine lv_goto (tgt := 24) hx hb dX3_productOf_20 (by decide) ?_
        exact cut_24 u (by rw [zm, if_pos c_16]) ls (lv_sub hl [0, 1, 2] rfl)
    · refine lv_iload_n hx hb dX3_productOf_10 rfl (lv_at hl 1 rfl) ?_
      refine lv_iload_n hx hb dX3_productOf_11 rfl (lv_at hl 2 rfl) ?_
      refine z_mul hx hb dX3_productOf_12 ?_
      exact W.iret hx hb hr (fun t ht _ => ⟨_, rfl, (by rw [npT, if_pos (by omega)]), ht⟩) (fun _ h => nomatch h) dX3_productOf_13
abbrev rm_c_X3_productOf : Room := rm_c_X3_productOf_g
abbrev q_c_X3_productOf (D : va_G) (nm : Nat) (tT : Nat) (mS : Nat) (cI : ClassId) (u : Nat) (v : Nat) : Array Value → State → Outcome → State → Prop := vp_Si (fun r => r = (nI (np u v)))
theorem c_X3_productOf (l : Launch) (D : va_G) (nm : Nat) (tT : Nat) (mS : Nat) (cI : ClassId) (u : Nat) (v : Nat) (hu : u < 256) (hv8 : v < 256) : Met l yX3_productOf wsX3_productOf rm_c_X3_productOf (va_Pc [.ref nm, .int (nI u), .int (nI v)] (fun U => va_P D vwCl [(nm, .inr (5, [.ref tT, .ref mS])), (tT, .inl (cI, 256, .inl (aN ztab)))] U.heap ∧ va_K D vwCl [(cI, .int)] U)) (q_c_X3_productOf D nm tT mS cI u v) 0 0 (fun _ => False) := by
  have h := c_X3_productOf_g l D nm tT mS cI ztab u v hu hv8 (fun k => ztab_lt k)
  unfold q_c_X3_productOf_g at h
  rw [npT_tab hu hv8] at h
  exact h
abbrev rm_c_X3_squareOf : Room := { frames := 2, cells := 0, slots := 0, locals := 53 }
abbrev q_c_X3_squareOf (D : va_G) (nm : Nat) (tT : Nat) (mS : Nat) (cI : ClassId) (u : Nat) : Array Value → State → Outcome → State → Prop := vp_Si (fun r => r = (nI (np u u)))
set_option maxHeartbeats 4000000 in
set_option maxRecDepth 100000 in
theorem c_X3_squareOf (l : Launch) (D : va_G) (nm : Nat) (tT : Nat) (mS : Nat) (cI : ClassId) (u : Nat) (hu : u < 256) : Met l yX3_squareOf wsX3_squareOf rm_c_X3_squareOf (va_Pc [.ref nm, .int (nI u)] (fun U => va_P D vwCl [(nm, .inr (5, [.ref tT, .ref mS])), (tT, .inl (cI, 256, .inl (aN ztab)))] U.heap ∧ va_K D vwCl [(cI, .int)] U)) (q_c_X3_squareOf D nm tT mS cI u) 0 0 (fun _ => False) := by
  refine Met.ofW (cc := cX3_squareOf) (maxL := 2) (ret := (some .int)) (by decide) rfl ?_
  intro p e s m args below meth c s₁ B hml hv
  obtain ⟨hargs, hP, hK⟩ := hv
  have hx := B.exec
  have hb := B.bytes
  have hr := B.returns
  have hts := atoms_spec (ws := wsX3_squareOf) B.pre
  have hown : s.vm.findClass RX3 = some m.cls := findClass_of_methodNamed B.named
  have hlocks := B.notSynchronized
  have hl := lv_entry ([.ref nm, .int (nI u)]) (n := 2) (Nat.le_of_ble_eq_true rfl)
  refine W.eq (g2 := F0 m 0 (lg_sl ([.ref nm, .int (nI u)]) ++ List.replicate (2 - (lg_sl ([.ref nm, .int (nI u)])).length) Slot.unset).toArray []) (by rw [hargs]; exact lg_entry_eq _ _ _) ?_
  generalize (lg_sl ([.ref nm, .int (nI u)]) ++ List.replicate (2 - (lg_sl ([.ref nm, .int (nI u)])).length) Slot.unset).toArray = ls at hl ⊢
  have hl : lv_has ls 2 [(0, .ref nm), (1, .int (nI u))] := hl
  refine lv_aload_n hx hb dX3_squareOf_0 rfl (lv_at hl 0 rfl) ?_
  refine lv_iload_n hx hb dX3_squareOf_1 rfl (lv_at hl 1 rfl) ?_
  refine lv_iload_n hx hb dX3_squareOf_2 rfl (lv_at hl 1 rfl) ?_
  refine z_ci (va_runV (As := [.int (nI u), .int (nI u)]) (rest := []) ⟨hx, hb, hml, hown, hts⟩ (c_X3_productOf l D nm tT mS cI u u (by omega) (by omega)) (cwV 2 hts gX3_squareOf_X3_productOf rfl rfl rfl (by decide +kernel) ⟨Nat.le_of_ble_eq_true rfl, Nat.le_of_ble_eq_true rfl⟩) ⟨(z_fb1), va_recv hK hP (ci := 5) (q0 := 0) rfl rfl, fun U hU hW => ⟨rfl, by rw [hU]; exact hP, va_K.moved hW.alike hK⟩⟩ rfl rfl hl.1 rfl (lv_room (Nat.le_of_ble_eq_true rfl)) dX3_squareOf_3 ⟨Nat.le_of_ble_eq_true rfl, Nat.le_of_ble_eq_true rfl⟩) (fun r3 e3 => ?_)
  subst e3
  have hn3 : np u u < 256 := np_lt (by omega) (by omega)
  exact W.iret hx hb hr (fun t ht _ => ⟨_, rfl, (rfl), ht⟩) (fun _ h => nomatch h) dX3_squareOf_6
abbrev rm_c_X3_powerOf : Room := { frames := 3, cells := 0, slots := 0, locals := 74 }
abbrev q_c_X3_powerOf (D : va_G) (nm : Nat) (tT : Nat) (mS : Nat) (cI : ClassId) (u : Nat) (n0 : Nat) : Array Value → State → Outcome → State → Prop := vp_Si (fun r => r = (nI (pw u n0)))
set_option maxHeartbeats 4000000 in
set_option maxRecDepth 100000 in
theorem c_X3_powerOf (l : Launch) (D : va_G) (nm : Nat) (tT : Nat) (mS : Nat) (cI : ClassId) (u : Nat) (n0 : Nat) (hu : u < 256) (hn0 : n0 < 2147483648) : Met l yX3_powerOf wsX3_powerOf rm_c_X3_powerOf (va_Pc [.ref nm, .int (nI u), .int (nI n0)] (fun U => va_P D vwCl [(nm, .inr (5, [.ref tT, .ref mS])), (tT, .inl (cI, 256, .inl (aN ztab)))] U.heap ∧ va_K D vwCl [(cI, .int)] U)) (q_c_X3_powerOf D nm tT mS cI u n0) 0 0 (fun _ => False) := by
  refine Met.ofW (cc := cX3_powerOf) (maxL := 6) (ret := (some .int)) (by decide) rfl ?_
  intro p e s m args below meth c s₁ B hml hv
  obtain ⟨hargs, hP, hK⟩ := hv
  have hx := B.exec
  have hb := B.bytes
  have hr := B.returns
  have hts := atoms_spec (ws := wsX3_powerOf) B.pre
  have hown : s.vm.findClass RX3 = some m.cls := findClass_of_methodNamed B.named
  have hlocks := B.notSynchronized
  have hl := lv_entry ([.ref nm, .int (nI u), .int (nI n0)]) (n := 6) (Nat.le_of_ble_eq_true rfl)
  refine W.eq (g2 := F0 m 0 (lg_sl ([.ref nm, .int (nI u), .int (nI n0)]) ++ List.replicate (6 - (lg_sl ([.ref nm, .int (nI u), .int (nI n0)])).length) Slot.unset).toArray []) (by rw [hargs]; exact lg_entry_eq _ _ _) ?_
  generalize (lg_sl ([.ref nm, .int (nI u), .int (nI n0)]) ++ List.replicate (6 - (lg_sl ([.ref nm, .int (nI u), .int (nI n0)])).length) Slot.unset).toArray = ls at hl ⊢
  have hl : lv_has ls 6 [(0, .ref nm), (1, .int (nI u)), (2, .int (nI n0))] := hl
  refine lv_iconst (v := nI 1) hx hb dX3_powerOf_0 zki_1 ?_
  refine lv_istore_n (lv' := [(3, .int (nI 1)), (0, .ref nm), (1, .int (nI u)), (2, .int (nI n0))]) hx hb dX3_powerOf_1 rfl hl (by decide) rfl (fun ls hl => ?_)
  refine lv_iload_n hx hb dX3_powerOf_2 rfl (lv_at hl 2 rfl) ?_
  refine lv_istore (lv' := [(4, .int (nI u)), (3, .int (nI 1)), (0, .ref nm), (1, .int (nI u)), (2, .int (nI n0))]) hx hb dX3_powerOf_3 hl (by decide) rfl (fun ls hl => ?_)
  refine lv_iload_n hx hb dX3_powerOf_5 rfl (lv_at hl 4 rfl) ?_
  refine lv_istore (lv' := [(5, .int (nI n0)), (4, .int (nI u)), (3, .int (nI 1)), (0, .ref nm), (1, .int (nI u)), (2, .int (nI n0))]) hx hb dX3_powerOf_6 hl (by decide) rfl (fun ls hl => ?_)
  have cut_8 : ∀ (n : Nat) (r : Nat) (xv : Nat) (k : Nat) (d : Nat) (hr1 : r < 256) (hx1 : xv < 256) (hk1 : k < 2 ^ d) (hk2 : k < 2147483648) (hinv : pwf d r xv k = pwf 31 1 u n0) (hn9 : k < n) (ls : Array Slot) (hl : lv_has ls 6 [(0, .ref nm), (1, .int (nI u)), (2, .int (nI n0)), (3, .int (nI r)), (4, .int (nI xv)), (5, .int (nI k))]), W p l e (headSpec wsX3_powerOf rm_c_X3_powerOf).room s m args below meth c s.heap [] 0 0 (MQ below (q_c_X3_powerOf D nm tT mS cI u n0) args s 0 0 (fun _ => False)) (F0 m 8 ls []) := by
    intro n
    induction n with
    | zero => intro r xv k d hr1 hx1 hk1 hk2 hinv hn9; exact absurd hn9 (Nat.not_lt_zero _)
    | succ n ih_8 =>
      intro r xv k d hr1 hx1 hk1 hk2 hinv hn9 ls hl
      refine lv_iload hx hb dX3_powerOf_8 (lv_at hl 5 rfl) ?_
      refine z_fle (tgt := 46) hx hb (by omega) dX3_powerOf_10 (by decide) (fun c_10 => ?_) (fun c_10 => ?_)
      · refine lv_iload_n hx hb dX3_powerOf_46 rfl (lv_at hl 3 rfl) ?_
        exact W.iret hx hb hr (fun t ht _ => ⟨_, rfl, (by subst c_10; rw [pwf_0] at hinv; exact congrArg nI hinv), ht⟩) (fun _ h => nomatch h) dX3_powerOf_47
      · obtain ⟨d2, rfl⟩ : ∃ z, d = z + 1 := by
          cases d with
          | zero => rw [Nat.pow_zero] at hk1; omega
          | succ z => exact ⟨z, rfl⟩
        rw [pwf_s c_10] at hinv
        have hk3 : k / 2 < 2 ^ d2 := by rw [Nat.pow_succ] at hk1; omega
        refine lv_iload hx hb dX3_powerOf_13 (lv_at hl 5 rfl) ?_
        refine lv_iconst (v := nI 2) hx hb dX3_powerOf_15 zki_2 ?_
        refine z_rem hx hb (by omega) (by omega) (by omega) dX3_powerOf_16 ?_
        refine lv_iconst (v := nI 1) hx hb dX3_powerOf_17 zki_1 ?_
        refine z_cne (tgt := 29) hx hb (by omega) (by omega) dX3_powerOf_18 (by decide) (fun c_18 => ?_) (fun c_18 => ?_)
        · rw [if_neg c_18] at hinv
          refine lv_aload_n hx hb dX3_powerOf_29 rfl (lv_at hl 0 rfl) ?_
          refine lv_iload hx hb dX3_powerOf_30 (lv_at hl 4 rfl) ?_
          refine z_ci (va_runV (As := [.int (nI xv)]) (rest := []) ⟨hx, hb, hml, hown, hts⟩ (c_X3_squareOf l D nm tT mS cI xv (by omega)) (cwV 1 hts gX3_powerOf_X3_squareOf rfl rfl rfl (by decide +kernel) ⟨Nat.le_of_ble_eq_true rfl, Nat.le_of_ble_eq_true rfl⟩) ⟨(z_fb1), va_recv hK hP (ci := 5) (q0 := 0) rfl rfl, fun U hU hW => ⟨rfl, by rw [hU]; exact hP, va_K.moved hW.alike hK⟩⟩ rfl rfl hl.1 rfl (lv_room (Nat.le_of_ble_eq_true rfl)) dX3_powerOf_32 ⟨Nat.le_of_ble_eq_true rfl, Nat.le_of_ble_eq_true rfl⟩) (fun r32 e32 => ?_)
          subst e32
          have hn32 : np xv xv < 256 := np_lt (by omega) (by omega)
          refine lv_istore (lv' := [(4, .int (nI (np xv xv))), (0, .ref nm), (1, .int (nI u)), (2, .int (nI n0)), (3, .int (nI r)), (5, .int (nI k))]) hx hb dX3_powerOf_35 hl (by decide) rfl (fun ls hl => ?_)
          refine lv_iload hx hb dX3_powerOf_37 (lv_at hl 5 rfl) ?_
          refine lv_iconst (v := nI 2) hx hb dX3_powerOf_39 zki_2 ?_
          refine z_div hx hb (by omega) (by omega) (by omega) dX3_powerOf_40 ?_
          refine lv_istore (lv' := [(5, .int (nI (k / 2))), (4, .int (nI (np xv xv))), (0, .ref nm), (1, .int (nI u)), (2, .int (nI n0)), (3, .int (nI r))]) hx hb dX3_powerOf_41 hl (by decide) rfl (fun ls hl => ?_)
          refine lv_goto (tgt := 8) hx hb dX3_powerOf_43 (by decide) ?_
          exact ih_8 r (np xv xv) (k / 2) d2 (by omega) (by omega) (hk3) (by omega) (hinv) (by omega) ls (lv_sub hl [2, 3, 4, 5, 1, 0] rfl)
        · rw [if_pos c_18] at hinv
          refine lv_aload_n hx hb dX3_powerOf_21 rfl (lv_at hl 0 rfl) ?_
          refine lv_iload_n hx hb dX3_powerOf_22 rfl (lv_at hl 3 rfl) ?_
          refine lv_iload hx hb dX3_powerOf_23 (lv_at hl 4 rfl) ?_
          refine z_ci (va_runV (As := [.int (nI r), .int (nI xv)]) (rest := []) ⟨hx, hb, hml, hown, hts⟩ (c_X3_productOf l D nm tT mS cI r xv (by omega) (by omega)) (cwV 2 hts gX3_powerOf_X3_productOf rfl rfl rfl (by decide +kernel) ⟨Nat.le_of_ble_eq_true rfl, Nat.le_of_ble_eq_true rfl⟩) ⟨(z_fb1), va_recv hK hP (ci := 5) (q0 := 0) rfl rfl, fun U hU hW => ⟨rfl, by rw [hU]; exact hP, va_K.moved hW.alike hK⟩⟩ rfl rfl hl.1 rfl (lv_room (Nat.le_of_ble_eq_true rfl)) dX3_powerOf_25 ⟨Nat.le_of_ble_eq_true rfl, Nat.le_of_ble_eq_true rfl⟩) (fun r25 e25 => ?_)
          subst e25
          have hn25 : np r xv < 256 := np_lt (by omega) (by omega)
          refine lv_istore_n (lv' := [(3, .int (nI (np r xv))), (0, .ref nm), (1, .int (nI u)), (2, .int (nI n0)), (4, .int (nI xv)), (5, .int (nI k))]) hx hb dX3_powerOf_28 rfl hl (by decide) rfl (fun ls hl => ?_)
          refine lv_aload_n hx hb dX3_powerOf_29 rfl (lv_at hl 1 rfl) ?_
          refine lv_iload hx hb dX3_powerOf_30 (lv_at hl 4 rfl) ?_
          refine z_ci (va_runV (As := [.int (nI xv)]) (rest := []) ⟨hx, hb, hml, hown, hts⟩ (c_X3_squareOf l D nm tT mS cI xv (by omega)) (cwV 1 hts gX3_powerOf_X3_squareOf rfl rfl rfl (by decide +kernel) ⟨Nat.le_of_ble_eq_true rfl, Nat.le_of_ble_eq_true rfl⟩) ⟨(z_fb1), va_recv hK hP (ci := 5) (q0 := 0) rfl rfl, fun U hU hW => ⟨rfl, by rw [hU]; exact hP, va_K.moved hW.alike hK⟩⟩ rfl rfl hl.1 rfl (lv_room (Nat.le_of_ble_eq_true rfl)) dX3_powerOf_32 ⟨Nat.le_of_ble_eq_true rfl, Nat.le_of_ble_eq_true rfl⟩) (fun r32 e32 => ?_)
          subst e32
          have hn32 : np xv xv < 256 := np_lt (by omega) (by omega)
          refine lv_istore (lv' := [(4, .int (nI (np xv xv))), (3, .int (nI (np r xv))), (0, .ref nm), (1, .int (nI u)), (2, .int (nI n0)), (5, .int (nI k))]) hx hb dX3_powerOf_35 hl (by decide) rfl (fun ls hl => ?_)
          refine lv_iload hx hb dX3_powerOf_37 (lv_at hl 5 rfl) ?_
          refine lv_iconst (v := nI 2) hx hb dX3_powerOf_39 zki_2 ?_
          refine z_div hx hb (by omega) (by omega) (by omega) dX3_powerOf_40 ?_
          refine lv_istore (lv' := [(5, .int (nI (k / 2))), (4, .int (nI (np xv xv))), (3, .int (nI (np r xv))), (0, .ref nm), (1, .int (nI u)), (2, .int (nI n0))]) hx hb dX3_powerOf_41 hl (by decide) rfl (fun ls hl => ?_)
          refine lv_goto (tgt := 8) hx hb dX3_powerOf_43 (by decide) ?_
          exact ih_8 (np r xv) (np xv xv) (k / 2) d2 (by omega) (by omega) (hk3) (by omega) (hinv) (by omega) ls (lv_sub hl [3, 4, 5, 2, 1, 0] rfl)
  exact cut_8 (n0 + 1) 1 u n0 31 (by omega) (by omega) (hn0) (hn0) (rfl) (Nat.lt_succ_self _) ls (lv_sub hl [3, 4, 5, 2, 1, 0] rfl)
abbrev rm_c_X3_rootOf : Room := { frames := 4, cells := 0, slots := 0, locals := 99 }
abbrev q_c_X3_rootOf (D : va_G) (nm : Nat) (tT : Nat) (mS : Nat) (cI : ClassId) (u : Nat) : Array Value → State → Outcome → State → Prop := vp_Si (fun r => r = (nI (rt u)))
set_option maxHeartbeats 4000000 in
set_option maxRecDepth 100000 in
theorem c_X3_rootOf (l : Launch) (D : va_G) (nm : Nat) (tT : Nat) (mS : Nat) (cI : ClassId) (u : Nat) (hu : u < 256) : Met l yX3_rootOf wsX3_rootOf rm_c_X3_rootOf (va_Pc [.ref nm, .int (nI u)] (fun U => va_P D vwCl [(nm, .inr (5, [.ref tT, .ref mS])), (tT, .inl (cI, 256, .inl (aN ztab)))] U.heap ∧ va_K D vwCl [(cI, .int)] U)) (q_c_X3_rootOf D nm tT mS cI u) 0 0 (fun _ => False) := by
  refine Met.ofW (cc := cX3_rootOf) (maxL := 2) (ret := (some .int)) (by decide) rfl ?_
  intro p e s m args below meth c s₁ B hml hv
  obtain ⟨hargs, hP, hK⟩ := hv
  have hx := B.exec
  have hb := B.bytes
  have hr := B.returns
  have hts := atoms_spec (ws := wsX3_rootOf) B.pre
  have hown : s.vm.findClass RX3 = some m.cls := findClass_of_methodNamed B.named
  have hlocks := B.notSynchronized
  have hl := lv_entry ([.ref nm, .int (nI u)]) (n := 2) (Nat.le_of_ble_eq_true rfl)
  refine W.eq (g2 := F0 m 0 (lg_sl ([.ref nm, .int (nI u)]) ++ List.replicate (2 - (lg_sl ([.ref nm, .int (nI u)])).length) Slot.unset).toArray []) (by rw [hargs]; exact lg_entry_eq _ _ _) ?_
  generalize (lg_sl ([.ref nm, .int (nI u)]) ++ List.replicate (2 - (lg_sl ([.ref nm, .int (nI u)])).length) Slot.unset).toArray = ls at hl ⊢
  have hl : lv_has ls 2 [(0, .ref nm), (1, .int (nI u))] := hl
  refine lv_aload_n hx hb dX3_rootOf_0 rfl (lv_at hl 0 rfl) ?_
  refine lv_iload_n hx hb dX3_rootOf_1 rfl (lv_at hl 1 rfl) ?_
  refine lv_sipush (v := nI 128) hx hb dX3_rootOf_2 zks_128 ?_
  refine z_ci (va_runV (As := [.int (nI u), .int (nI 128)]) (rest := []) ⟨hx, hb, hml, hown, hts⟩ (c_X3_powerOf l D nm tT mS cI u 128 (by omega) (by omega)) (cwV 2 hts gX3_rootOf_X3_powerOf rfl rfl rfl (by decide +kernel) ⟨Nat.le_of_ble_eq_true rfl, Nat.le_of_ble_eq_true rfl⟩) ⟨(z_fb1), va_recv hK hP (ci := 5) (q0 := 0) rfl rfl, fun U hU hW => ⟨rfl, by rw [hU]; exact hP, va_K.moved hW.alike hK⟩⟩ rfl rfl hl.1 rfl (lv_room (Nat.le_of_ble_eq_true rfl)) dX3_rootOf_5 ⟨Nat.le_of_ble_eq_true rfl, Nat.le_of_ble_eq_true rfl⟩) (fun r5 e5 => ?_)
  subst e5
  have hn5 : pw u 128 < 256 := pw_lt (by omega)
  exact W.iret hx hb hr (fun t ht _ => ⟨_, rfl, (rfl), ht⟩) (fun _ h => nomatch h) dX3_rootOf_8
abbrev rm_c_X3_quotientOf : Room := { frames := 4, cells := 0, slots := 0, locals := 99 }
abbrev q_c_X3_quotientOf (D : va_G) (nm : Nat) (tT : Nat) (mS : Nat) (cI : ClassId) (u : Nat) (v : Nat) : Array Value → State → Outcome → State → Prop := vp_Si (fun r => r = (nI (qt u v)))
set_option maxHeartbeats 4000000 in
set_option maxRecDepth 100000 in
theorem c_X3_quotientOf (l : Launch) (D : va_G) (nm : Nat) (tT : Nat) (mS : Nat) (cI : ClassId) (u : Nat) (v : Nat) (hu : u < 256) (hv8 : v < 256) : Met l yX3_quotientOf wsX3_quotientOf rm_c_X3_quotientOf (va_Pc [.ref nm, .int (nI u), .int (nI v)] (fun U => va_P D vwCl [(nm, .inr (5, [.ref tT, .ref mS])), (tT, .inl (cI, 256, .inl (aN ztab)))] U.heap ∧ va_K D vwCl [(cI, .int)] U)) (q_c_X3_quotientOf D nm tT mS cI u v) 0 0 (fun _ => False) := by
  refine Met.ofW (cc := cX3_quotientOf) (maxL := 3) (ret := (some .int)) (by decide) rfl ?_
  intro p e s m args below meth c s₁ B hml hv
  obtain ⟨hargs, hP, hK⟩ := hv
  have hx := B.exec
  have hb := B.bytes
  have hr := B.returns
  have hts := atoms_spec (ws := wsX3_quotientOf) B.pre
  have hown : s.vm.findClass RX3 = some m.cls := findClass_of_methodNamed B.named
  have hlocks := B.notSynchronized
  have hl := lv_entry ([.ref nm, .int (nI u), .int (nI v)]) (n := 3) (Nat.le_of_ble_eq_true rfl)
  refine W.eq (g2 := F0 m 0 (lg_sl ([.ref nm, .int (nI u), .int (nI v)]) ++ List.replicate (3 - (lg_sl ([.ref nm, .int (nI u), .int (nI v)])).length) Slot.unset).toArray []) (by rw [hargs]; exact lg_entry_eq _ _ _) ?_
  generalize (lg_sl ([.ref nm, .int (nI u), .int (nI v)]) ++ List.replicate (3 - (lg_sl ([.ref nm, .int (nI u), .int (nI v)])).length) Slot.unset).toArray = ls at hl ⊢
  have hl : lv_has ls 3 [(0, .ref nm), (1, .int (nI u)), (2, .int (nI v))] := hl
  refine lv_aload_n hx hb dX3_quotientOf_0 rfl (lv_at hl 0 rfl) ?_
  refine lv_iload_n hx hb dX3_quotientOf_1 rfl (lv_at hl 1 rfl) ?_
  refine lv_aload_n hx hb dX3_quotientOf_2 rfl (lv_at hl 0 rfl) ?_
  refine lv_iload_n hx hb dX3_quotientOf_3 rfl (lv_at hl 2 rfl) ?_
  refine lv_sipush (v := nI 254) hx hb dX3_quotientOf_4 zks_254 ?_
  refine z_ci (va_runV (As := [.int (nI v), .int (nI 254)]) (rest := [.int (nI u), .ref nm]) ⟨hx, hb, hml, hown, hts⟩ (c_X3_powerOf l D nm tT mS cI v 254 (by omega) (by omega)) (cwV 2 hts gX3_quotientOf_X3_powerOf rfl rfl rfl (by decide +kernel) ⟨Nat.le_of_ble_eq_true rfl, Nat.le_of_ble_eq_true rfl⟩) ⟨(z_fb1), va_recv hK hP (ci := 5) (q0 := 0) rfl rfl, fun U hU hW => ⟨rfl, by rw [hU]; exact hP, va_K.moved hW.alike hK⟩⟩ rfl rfl hl.1 rfl (lv_room (Nat.le_of_ble_eq_true rfl)) dX3_quotientOf_7 ⟨Nat.le_of_ble_eq_true rfl, Nat.le_of_ble_eq_true rfl⟩) (fun r7 e7 => ?_)
  subst e7
  have hn7 : pw v 254 < 256 := pw_lt (by omega)
  refine z_ci (va_runV (As := [.int (nI u), .int (nI (pw v 254))]) (rest := []) ⟨hx, hb, hml, hown, hts⟩ (c_X3_productOf l D nm tT mS cI u (pw v 254) (by omega) (by omega)) (cwV 2 hts gX3_quotientOf_X3_productOf rfl rfl rfl (by decide +kernel) ⟨Nat.le_of_ble_eq_true rfl, Nat.le_of_ble_eq_true rfl⟩) ⟨(z_fb1), va_recv hK hP (ci := 5) (q0 := 0) rfl rfl, fun U hU hW => ⟨rfl, by rw [hU]; exact hP, va_K.moved hW.alike hK⟩⟩ rfl rfl hl.1 rfl (lv_room (Nat.le_of_ble_eq_true rfl)) dX3_quotientOf_10 ⟨Nat.le_of_ble_eq_true rfl, Nat.le_of_ble_eq_true rfl⟩) (fun r10 e10 => ?_)
  subst e10
  have hn10 : np u (pw v 254) < 256 := np_lt (by omega) (by omega)
  exact W.iret hx hb hr (fun t ht _ => ⟨_, rfl, (rfl), ht⟩) (fun _ h => nomatch h) dX3_quotientOf_13
abbrev rm_c_X3_solutionOf : Room := { frames := 3, cells := 0, slots := 0, locals := 74 }
abbrev q_c_X3_solutionOf (D : va_G) (nm : Nat) (tT : Nat) (mS : Nat) (cI : ClassId) (u : Nat) (g : Bool) : Array Value → State → Outcome → State → Prop := vp_Si (fun r => r = (oI (sl u g)))
set_option maxHeartbeats 4000000 in
set_option maxRecDepth 100000 in
theorem c_X3_solutionOf (l : Launch) (D : va_G) (nm : Nat) (tT : Nat) (mS : Nat) (cI : ClassId) (u : Nat) (g : Bool) (hu : u < 256) : Met l yX3_solutionOf wsX3_solutionOf rm_c_X3_solutionOf (va_Pc [.ref nm, .int (nI u), .int (bI g)] (fun U => va_P D vwCl [(nm, .inr (5, [.ref tT, .ref mS])), (tT, .inl (cI, 256, .inl (aN ztab)))] U.heap ∧ va_K D vwCl [(cI, .int)] U)) (q_c_X3_solutionOf D nm tT mS cI u g) 0 0 (fun _ => False) := by
  refine Met.ofW (cc := cX3_solutionOf) (maxL := 6) (ret := (some .int)) (by decide) rfl ?_
  intro p e s m args below meth c s₁ B hml hv
  obtain ⟨hargs, hP, hK⟩ := hv
  have hx := B.exec
  have hb := B.bytes
  have hr := B.returns
  have hts := atoms_spec (ws := wsX3_solutionOf) B.pre
  have hown : s.vm.findClass RX3 = some m.cls := findClass_of_methodNamed B.named
  have hlocks := B.notSynchronized
  have hl := lv_entry ([.ref nm, .int (nI u), .int (bI g)]) (n := 6) (Nat.le_of_ble_eq_true rfl)
  refine W.eq (g2 := F0 m 0 (lg_sl ([.ref nm, .int (nI u), .int (bI g)]) ++ List.replicate (6 - (lg_sl ([.ref nm, .int (nI u), .int (bI g)])).length) Slot.unset).toArray []) (by rw [hargs]; exact lg_entry_eq _ _ _) ?_
  generalize (lg_sl ([.ref nm, .int (nI u), .int (bI g)]) ++ List.replicate (6 - (lg_sl ([.ref nm, .int (nI u), .int (bI g)])).length) Slot.unset).toArray = ls at hl ⊢
  have hl : lv_has ls 6 [(0, .ref nm), (1, .int (nI u)), (2, .int (bI g))] := hl
  refine lv_iconst (v := (-1)) hx hb dX3_solutionOf_0 zki_m1 ?_
  refine lv_istore_n (lv' := [(3, .int (-1)), (0, .ref nm), (1, .int (nI u)), (2, .int (bI g))]) hx hb dX3_solutionOf_1 rfl hl (by decide) rfl (fun ls hl => ?_)
  refine lv_iconst (v := nI 0) hx hb dX3_solutionOf_2 zki_0 ?_
  refine lv_istore (lv' := [(4, .int (nI 0)), (3, .int (-1)), (0, .ref nm), (1, .int (nI u)), (2, .int (bI g))]) hx hb dX3_solutionOf_3 hl (by decide) rfl (fun ls hl => ?_)
  have cut_5 : ∀ (n : Nat) (i : Nat) (hi : i ≤ 256) (hn9 : 256 - i < n) (ls : Array Slot) (hl : lv_has ls 6 [(0, .ref nm), (1, .int (nI u)), (2, .int (bI g)), (3, .int (oI (slk u g i))), (4, .int (nI i))]), W p l e (headSpec wsX3_solutionOf rm_c_X3_solutionOf).room s m args below meth c s.heap [] 0 0 (MQ below (q_c_X3_solutionOf D nm tT mS cI u g) args s 0 0 (fun _ => False)) (F0 m 5 ls []) := by
    intro n
    induction n with
    | zero => intro i hi hn9; exact absurd hn9 (Nat.not_lt_zero _)
    | succ n ih_5 =>
      intro i hi hn9 ls hl
      refine lv_iload hx hb dX3_solutionOf_5 (lv_at hl 4 rfl) ?_
      refine lv_sipush (v := nI 256) hx hb dX3_solutionOf_7 zks_256 ?_
      refine z_cge (tgt := 56) hx hb (by omega) (by omega) dX3_solutionOf_10 (by decide) (fun c_10 => ?_) (fun c_10 => ?_)
      · refine lv_iload_n hx hb dX3_solutionOf_56 rfl (lv_at hl 3 rfl) ?_
        exact W.iret hx hb hr (fun t ht _ => ⟨_, rfl, (by rw [show (i : Nat) = 256 by omega]; rfl), ht⟩) (fun _ h => nomatch h) dX3_solutionOf_57
      · refine lv_iload_n hx hb dX3_solutionOf_13 rfl (lv_at hl 3 rfl) ?_
        refine lv_iconst (v := (-1)) hx hb dX3_solutionOf_14 zki_m1 ?_
        refine lv_icmp_eq (tgt := 22) hx hb dX3_solutionOf_15 (by decide) (fun c_15 => ?_) (fun c_15 => ?_)
        · have hfree : (slk u g i).isNone = true ∨ g = true := Or.inl (by rw [(z_oI (fun n h => by have := slk_lt h; omega)).mp c_15]; rfl)
          refine lv_iconst (v := nI 1) hx hb dX3_solutionOf_22 zki_1 ?_
          refine lv_goto (tgt := 27) hx hb dX3_solutionOf_23 (by decide) ?_
          refine lv_istore (lv' := [(5, .int (nI 1)), (0, .ref nm), (1, .int (nI u)), (2, .int (bI g)), (3, .int (oI (slk u g i))), (4, .int (nI i))]) hx hb dX3_solutionOf_27 hl (by decide) rfl (fun ls hl => ?_)
          refine lv_iload hx hb dX3_solutionOf_29 (lv_at hl 0 rfl) ?_
          refine z_feq (tgt := 50) hx hb (by omega) dX3_solutionOf_31 (by decide) (fun c_31 => absurd c_31 (by decide)) (fun c_31 => ?_)
          refine lv_aload_n hx hb dX3_solutionOf_34 rfl (lv_at hl 1 rfl) ?_
          refine lv_iload hx hb dX3_solutionOf_35 (lv_at hl 5 rfl) ?_
          refine z_ci (va_runV (As := [.int (nI i)]) (rest := []) ⟨hx, hb, hml, hown, hts⟩ (c_X3_squareOf l D nm tT mS cI i (by omega)) (cwV 1 hts gX3_solutionOf_X3_squareOf rfl rfl rfl (by decide +kernel) ⟨Nat.le_of_ble_eq_true rfl, Nat.le_of_ble_eq_true rfl⟩) ⟨(z_fb1), va_recv hK hP (ci := 5) (q0 := 0) rfl rfl, fun U hU hW => ⟨rfl, by rw [hU]; exact hP, va_K.moved hW.alike hK⟩⟩ rfl rfl hl.1 rfl (lv_room (Nat.le_of_ble_eq_true rfl)) dX3_solutionOf_37 ⟨Nat.le_of_ble_eq_true rfl, Nat.le_of_ble_eq_true rfl⟩) (fun r37 e37 => ?_)
          subst e37
          have hn37 : np i i < 256 := np_lt (by omega) (by omega)
          refine lv_iload hx hb dX3_solutionOf_40 (lv_at hl 5 rfl) ?_
          have hx42 : np i i ^^^ i < 256 := zx8 hn37 (by omega)
          refine z_xor hx hb dX3_solutionOf_42 ?_
          refine lv_iload_n hx hb dX3_solutionOf_43 rfl (lv_at hl 2 rfl) ?_
          refine z_cne (tgt := 50) hx hb (by omega) (by omega) dX3_solutionOf_44 (by decide) (fun c_44 => ?_) (fun c_44 => ?_)
          · have e9 : slk u g i = slk u g (i + 1) := by rw [slk, if_neg (fun q => c_44 q.1)]
            refine lv_iinc (v := (nI (i + 1))) (lv' := [(4, .int (nI (i + 1))), (5, .int (nI 1)), (0, .ref nm), (1, .int (nI u)), (2, .int (bI g)), (3, .int (oI (slk u g i)))]) hx hb dX3_solutionOf_50 hl (k := 5) rfl (z_inc i 1) (by decide) rfl (fun ls hl => ?_)
            refine lv_goto (tgt := 5) hx hb dX3_solutionOf_53 (by decide) ?_
            have hl : lv_has ls 6 [(4, .int (nI (i + 1))), (5, .int (nI 1)), (0, .ref nm), (1, .int (nI u)), (2, .int (bI g)), (3, .int (oI (slk u g (i + 1))))] := Eq.mp (congrArg (fun z9 => lv_has ls 6 [(4, .int (nI (i + 1))), (5, .int (nI 1)), (0, .ref nm), (1, .int (nI u)), (2, .int (bI g)), (3, .int z9)]) (congrArg oI (show slk u g i = slk u g (i + 1) from e9))) hl
            exact ih_5 (i + 1) (by omega) (by omega) ls (lv_sub hl [2, 3, 4, 5, 0] rfl)
          · have e9 : nI i = oI (slk u g (i + 1)) := by rw [slk, if_pos ⟨c_44, hfree⟩]; rfl
            refine lv_iload hx hb dX3_solutionOf_47 (lv_at hl 5 rfl) ?_
            refine lv_istore_n (lv' := [(3, .int (nI i)), (5, .int (nI 1)), (0, .ref nm), (1, .int (nI u)), (2, .int (bI g)), (4, .int (nI i))]) hx hb dX3_solutionOf_49 rfl hl (by decide) rfl (fun ls hl => ?_)
            refine lv_iinc (v := (nI (i + 1))) (lv' := [(4, .int (nI (i + 1))), (3, .int (nI i)), (5, .int (nI 1)), (0, .ref nm), (1, .int (nI u)), (2, .int (bI g))]) hx hb dX3_solutionOf_50 hl (k := 5) rfl (z_inc i 1) (by decide) rfl (fun ls hl => ?_)
            refine lv_goto (tgt := 5) hx hb dX3_solutionOf_53 (by decide) ?_
            have hl : lv_has ls 6 [(4, .int (nI (i + 1))), (3, .int (oI (slk u g (i + 1)))), (5, .int (nI 1)), (0, .ref nm), (1, .int (nI u)), (2, .int (bI g))] := Eq.mp (congrArg (fun z9 => lv_has ls 6 [(4, .int (nI (i + 1))), (3, .int z9), (5, .int (nI 1)), (0, .ref nm), (1, .int (nI u)), (2, .int (bI g))]) ((show (nI i) = (oI (slk u g (i + 1))) from e9))) hl
            exact ih_5 (i + 1) (by omega) (by omega) ls (lv_sub hl [3, 4, 5, 1, 0] rfl)
        · refine lv_iload_n hx hb dX3_solutionOf_18 rfl (lv_at hl 2 rfl) ?_
          refine z_beq (tgt := 26) hx hb dX3_solutionOf_19 (by decide) (fun c_19 => ?_) (fun c_19 => ?_)
          · have e9 : slk u g i = slk u g (i + 1) := by
              rw [slk, if_neg]
              rintro ⟨-, q | q⟩
              · exact c_15 ((z_oI (fun n h => by have := slk_lt h; omega)).mpr (Option.isNone_iff_eq_none.mp q))
              · rw [c_19] at q; cases q
            refine lv_iconst (v := nI 0) hx hb dX3_solutionOf_26 zki_0 ?_
            refine lv_istore (lv' := [(5, .int (nI 0)), (0, .ref nm), (1, .int (nI u)), (2, .int (bI g)), (3, .int (oI (slk u g i))), (4, .int (nI i))]) hx hb dX3_solutionOf_27 hl (by decide) rfl (fun ls hl => ?_)
            refine lv_iload hx hb dX3_solutionOf_29 (lv_at hl 0 rfl) ?_
            refine z_feq (tgt := 50) hx hb (by omega) dX3_solutionOf_31 (by decide) (fun c_31 => ?_) (fun c_31 => absurd c_31 (by decide))
            refine lv_iinc (v := (nI (i + 1))) (lv' := [(4, .int (nI (i + 1))), (5, .int (nI 0)), (0, .ref nm), (1, .int (nI u)), (2, .int (bI g)), (3, .int (oI (slk u g i)))]) hx hb dX3_solutionOf_50 hl (k := 5) rfl (z_inc i 1) (by decide) rfl (fun ls hl => ?_)
            refine lv_goto (tgt := 5) hx hb dX3_solutionOf_53 (by decide) ?_
            have hl : lv_has ls 6 [(4, .int (nI (i + 1))), (5, .int (nI 0)), (0, .ref nm), (1, .int (nI u)), (2, .int (bI g)), (3, .int (oI (slk u g (i + 1))))] := Eq.mp (congrArg (fun z9 => lv_has ls 6 [(4, .int (nI (i + 1))), (5, .int (nI 0)), (0, .ref nm), (1, .int (nI u)), (2, .int (bI g)), (3, .int z9)]) (congrArg oI (show slk u g i = slk u g (i + 1) from e9))) hl
            exact ih_5 (i + 1) (by omega) (by omega) ls (lv_sub hl [2, 3, 4, 5, 0] rfl)
          · have hfree : (slk u g i).isNone = true ∨ g = true := Or.inr c_19
            refine lv_iconst (v := nI 1) hx hb dX3_solutionOf_22 zki_1 ?_
            refine lv_goto (tgt := 27) hx hb dX3_solutionOf_23 (by decide) ?_
            refine lv_istore (lv' := [(5, .int (nI 1)), (0, .ref nm), (1, .int (nI u)), (2, .int (bI g)), (3, .int (oI (slk u g i))), (4, .int (nI i))]) hx hb dX3_solutionOf_27 hl (by decide) rfl (fun ls hl => ?_)
            refine lv_iload hx hb dX3_solutionOf_29 (lv_at hl 0 rfl) ?_
            refine z_feq (tgt := 50) hx hb (by omega) dX3_solutionOf_31 (by decide) (fun c_31 => absurd c_31 (by decide)) (fun c_31 => ?_)
            refine lv_aload_n hx hb dX3_solutionOf_34 rfl (lv_at hl 1 rfl) ?_
            refine lv_iload hx hb dX3_solutionOf_35 (lv_at hl 5 rfl) ?_
            refine z_ci (va_runV (As := [.int (nI i)]) (rest := []) ⟨hx, hb, hml, hown, hts⟩ (c_X3_squareOf l D nm tT mS cI i (by omega)) (cwV 1 hts gX3_solutionOf_X3_squareOf rfl rfl rfl (by decide +kernel) ⟨Nat.le_of_ble_eq_true rfl, Nat.le_of_ble_eq_true rfl⟩) ⟨(z_fb1), va_recv hK hP (ci := 5) (q0 := 0) rfl rfl, fun U hU hW => ⟨rfl, by rw [hU]; exact hP, va_K.moved hW.alike hK⟩⟩ rfl rfl hl.1 rfl (lv_room (Nat.le_of_ble_eq_true rfl)) dX3_solutionOf_37 ⟨Nat.le_of_ble_eq_true rfl, Nat.le_of_ble_eq_true rfl⟩) (fun r37 e37 => ?_)
            subst e37
            have hn37 : np i i < 256 := np_lt (by omega) (by omega)
            refine lv_iload hx hb dX3_solutionOf_40 (lv_at hl 5 rfl) ?_
            have hx42 : np i i ^^^ i < 256 := zx8 hn37 (by omega)
            refine z_xor hx hb dX3_solutionOf_42 ?_
            refine lv_iload_n hx hb dX3_solutionOf_43 rfl (lv_at hl 2 rfl) ?_
            refine z_cne (tgt := 50) hx hb (by omega) (by omega) dX3_solutionOf_44 (by decide) (fun c_44 => ?_) (fun c_44 => ?_)
            · have e9 : slk u g i = slk u g (i + 1) := by rw [slk, if_neg (fun q => c_44 q.1)]
              refine lv_iinc (v := (nI (i + 1))) (lv' := [(4, .int (nI (i + 1))), (5, .int (nI 1)), (0, .ref nm), (1, .int (nI u)), (2, .int (bI g)), (3, .int (oI (slk u g i)))]) hx hb dX3_solutionOf_50 hl (k := 5) rfl (z_inc i 1) (by decide) rfl (fun ls hl => ?_)
              refine lv_goto (tgt := 5) hx hb dX3_solutionOf_53 (by decide) ?_
              have hl : lv_has ls 6 [(4, .int (nI (i + 1))), (5, .int (nI 1)), (0, .ref nm), (1, .int (nI u)), (2, .int (bI g)), (3, .int (oI (slk u g (i + 1))))] := Eq.mp (congrArg (fun z9 => lv_has ls 6 [(4, .int (nI (i + 1))), (5, .int (nI 1)), (0, .ref nm), (1, .int (nI u)), (2, .int (bI g)), (3, .int z9)]) (congrArg oI (show slk u g i = slk u g (i + 1) from e9))) hl
              exact ih_5 (i + 1) (by omega) (by omega) ls (lv_sub hl [2, 3, 4, 5, 0] rfl)
            · have e9 : nI i = oI (slk u g (i + 1)) := by rw [slk, if_pos ⟨c_44, hfree⟩]; rfl
              refine lv_iload hx hb dX3_solutionOf_47 (lv_at hl 5 rfl) ?_
              refine lv_istore_n (lv' := [(3, .int (nI i)), (5, .int (nI 1)), (0, .ref nm), (1, .int (nI u)), (2, .int (bI g)), (4, .int (nI i))]) hx hb dX3_solutionOf_49 rfl hl (by decide) rfl (fun ls hl => ?_)
              refine lv_iinc (v := (nI (i + 1))) (lv' := [(4, .int (nI (i + 1))), (3, .int (nI i)), (5, .int (nI 1)), (0, .ref nm), (1, .int (nI u)), (2, .int (bI g))]) hx hb dX3_solutionOf_50 hl (k := 5) rfl (z_inc i 1) (by decide) rfl (fun ls hl => ?_)
              refine lv_goto (tgt := 5) hx hb dX3_solutionOf_53 (by decide) ?_
              have hl : lv_has ls 6 [(4, .int (nI (i + 1))), (3, .int (oI (slk u g (i + 1)))), (5, .int (nI 1)), (0, .ref nm), (1, .int (nI u)), (2, .int (bI g))] := Eq.mp (congrArg (fun z9 => lv_has ls 6 [(4, .int (nI (i + 1))), (3, .int z9), (5, .int (nI 1)), (0, .ref nm), (1, .int (nI u)), (2, .int (bI g))]) ((show (nI i) = (oI (slk u g (i + 1))) from e9))) hl
              exact ih_5 (i + 1) (by omega) (by omega) ls (lv_sub hl [3, 4, 5, 1, 0] rfl)
  have hl : lv_has ls 6 [(4, .int (nI 0)), (3, .int (oI (slk u g 0))), (0, .ref nm), (1, .int (nI u)), (2, .int (bI g))] := Eq.mp (congrArg (fun z9 => lv_has ls 6 [(4, .int (nI 0)), (3, .int z9), (0, .ref nm), (1, .int (nI u)), (2, .int (bI g))]) ((show (-1) = (oI (slk u g 0)) from rfl))) hl
  exact cut_5 ((256 - 0) + 1) 0 (by omega) (Nat.lt_succ_self _) ls (lv_sub hl [2, 3, 4, 1, 0] rfl)
abbrev rm_c_X3_traceOf : Room := { frames := 3, cells := 0, slots := 0, locals := 74 }
abbrev q_c_X3_traceOf (D : va_G) (nm : Nat) (tT : Nat) (mS : Nat) (cI : ClassId) (u : Nat) : Array Value → State → Outcome → State → Prop := vp_Si (fun r => r = (nI (tr u)))
set_option maxHeartbeats 4000000 in
set_option maxRecDepth 100000 in
theorem c_X3_traceOf (l : Launch) (D : va_G) (nm : Nat) (tT : Nat) (mS : Nat) (cI : ClassId) (u : Nat) (hu : u < 256) : Met l yX3_traceOf wsX3_traceOf rm_c_X3_traceOf (va_Pc [.ref nm, .int (nI u)] (fun U => va_P D vwCl [(nm, .inr (5, [.ref tT, .ref mS])), (tT, .inl (cI, 256, .inl (aN ztab)))] U.heap ∧ va_K D vwCl [(cI, .int)] U)) (q_c_X3_traceOf D nm tT mS cI u) 0 0 (fun _ => False) := by
  refine Met.ofW (cc := cX3_traceOf) (maxL := 5) (ret := (some .int)) (by decide) rfl ?_
  intro p e s m args below meth c s₁ B hml hv
  obtain ⟨hargs, hP, hK⟩ := hv
  have hx := B.exec
  have hb := B.bytes
  have hr := B.returns
  have hts := atoms_spec (ws := wsX3_traceOf) B.pre
  have hown : s.vm.findClass RX3 = some m.cls := findClass_of_methodNamed B.named
  have hlocks := B.notSynchronized
  have hl := lv_entry ([.ref nm, .int (nI u)]) (n := 5) (Nat.le_of_ble_eq_true rfl)
  refine W.eq (g2 := F0 m 0 (lg_sl ([.ref nm, .int (nI u)]) ++ List.replicate (5 - (lg_sl ([.ref nm, .int (nI u)])).length) Slot.unset).toArray []) (by rw [hargs]; exact lg_entry_eq _ _ _) ?_
  generalize (lg_sl ([.ref nm, .int (nI u)]) ++ List.replicate (5 - (lg_sl ([.ref nm, .int (nI u)])).length) Slot.unset).toArray = ls at hl ⊢
  have hl : lv_has ls 5 [(0, .ref nm), (1, .int (nI u))] := hl
  refine lv_iconst (v := nI 0) hx hb dX3_traceOf_0 zki_0 ?_
  refine lv_istore_n (lv' := [(2, .int (nI 0)), (0, .ref nm), (1, .int (nI u))]) hx hb dX3_traceOf_1 rfl hl (by decide) rfl (fun ls hl => ?_)
  refine lv_iload_n hx hb dX3_traceOf_2 rfl (lv_at hl 2 rfl) ?_
  refine lv_istore_n (lv' := [(3, .int (nI u)), (2, .int (nI 0)), (0, .ref nm), (1, .int (nI u))]) hx hb dX3_traceOf_3 rfl hl (by decide) rfl (fun ls hl => ?_)
  refine lv_iconst (v := nI 0) hx hb dX3_traceOf_4 zki_0 ?_
  refine lv_istore (lv' := [(4, .int (nI 0)), (3, .int (nI u)), (2, .int (nI 0)), (0, .ref nm), (1, .int (nI u))]) hx hb dX3_traceOf_5 hl (by decide) rfl (fun ls hl => ?_)
  have cut_7 : ∀ (n : Nat) (i : Nat) (sv : Nat) (xv : Nat) (hi : i ≤ 8) (hsv : sv < 256) (hxv : xv < 256) (hinv : trf (8 - i) sv xv = tr u) (hn9 : 8 - i < n) (ls : Array Slot) (hl : lv_has ls 5 [(0, .ref nm), (1, .int (nI u)), (2, .int (nI sv)), (3, .int (nI xv)), (4, .int (nI i))]), W p l e (headSpec wsX3_traceOf rm_c_X3_traceOf).room s m args below meth c s.heap [] 0 0 (MQ below (q_c_X3_traceOf D nm tT mS cI u) args s 0 0 (fun _ => False)) (F0 m 7 ls []) := by
    intro n
    induction n with
    | zero => intro i sv xv hi hsv hxv hinv hn9; exact absurd hn9 (Nat.not_lt_zero _)
    | succ n ih_7 =>
      intro i sv xv hi hsv hxv hinv hn9 ls hl
      refine lv_iload hx hb dX3_traceOf_7 (lv_at hl 4 rfl) ?_
      refine lv_bipush (v := nI 8) hx hb dX3_traceOf_9 zkb_8 ?_
      refine z_cge (tgt := 30) hx hb (by omega) (by omega) dX3_traceOf_11 (by decide) (fun c_11 => ?_) (fun c_11 => ?_)
      · refine lv_iload_n hx hb dX3_traceOf_30 rfl (lv_at hl 2 rfl) ?_
        exact W.iret hx hb hr (fun t ht _ => ⟨_, rfl, (by rw [← hinv, show 8 - i = 0 by omega]; rfl), ht⟩) (fun _ h => nomatch h) dX3_traceOf_31
      · refine lv_iload_n hx hb dX3_traceOf_14 rfl (lv_at hl 2 rfl) ?_
        refine lv_iload_n hx hb dX3_traceOf_15 rfl (lv_at hl 3 rfl) ?_
        refine z_xor hx hb dX3_traceOf_16 ?_
        refine lv_istore_n (lv' := [(2, .int (nI (sv ^^^ xv))), (0, .ref nm), (1, .int (nI u)), (3, .int (nI xv)), (4, .int (nI i))]) hx hb dX3_traceOf_17 rfl hl (by decide) rfl (fun ls hl => ?_)
        refine lv_aload_n hx hb dX3_traceOf_18 rfl (lv_at hl 1 rfl) ?_
        refine lv_iload_n hx hb dX3_traceOf_19 rfl (lv_at hl 3 rfl) ?_
        refine z_ci (va_runV (As := [.int (nI xv)]) (rest := []) ⟨hx, hb, hml, hown, hts⟩ (c_X3_squareOf l D nm tT mS cI xv (by omega)) (cwV 1 hts gX3_traceOf_X3_squareOf rfl rfl rfl (by decide +kernel) ⟨Nat.le_of_ble_eq_true rfl, Nat.le_of_ble_eq_true rfl⟩) ⟨(z_fb1), va_recv hK hP (ci := 5) (q0 := 0) rfl rfl, fun U hU hW => ⟨rfl, by rw [hU]; exact hP, va_K.moved hW.alike hK⟩⟩ rfl rfl hl.1 rfl (lv_room (Nat.le_of_ble_eq_true rfl)) dX3_traceOf_20 ⟨Nat.le_of_ble_eq_true rfl, Nat.le_of_ble_eq_true rfl⟩) (fun r20 e20 => ?_)
        subst e20
        have hn20 : np xv xv < 256 := np_lt (by omega) (by omega)
        refine lv_istore_n (lv' := [(3, .int (nI (np xv xv))), (2, .int (nI (sv ^^^ xv))), (0, .ref nm), (1, .int (nI u)), (4, .int (nI i))]) hx hb dX3_traceOf_23 rfl hl (by decide) rfl (fun ls hl => ?_)
        refine lv_iinc (v := (nI (i + 1))) (lv' := [(4, .int (nI (i + 1))), (3, .int (nI (np xv xv))), (2, .int (nI (sv ^^^ xv))), (0, .ref nm), (1, .int (nI u))]) hx hb dX3_traceOf_24 hl (k := 4) rfl (z_inc i 1) (by decide) rfl (fun ls hl => ?_)
        refine lv_goto (tgt := 7) hx hb dX3_traceOf_27 (by decide) ?_
        exact ih_7 (i + 1) (sv ^^^ xv) (np xv xv) (by omega) (zx8 hsv hxv) (by omega) (by rw [← hinv, show 8 - i = (8 - (i + 1)) + 1 by omega]; rfl) (by omega) ls (lv_sub hl [3, 4, 2, 1, 0] rfl)
  exact cut_7 ((8 - 0) + 1) 0 0 u (by omega) (by omega) (by omega) (rfl) (Nat.lt_succ_self _) ls (lv_sub hl [3, 4, 2, 1, 0] rfl)
abbrev rm_c_X3_orderOf : Room := { frames := 2, cells := 0, slots := 0, locals := 53 }
abbrev q_c_X3_orderOf (D : va_G) (nm : Nat) (tT : Nat) (mS : Nat) (cI : ClassId) (u : Nat) : Array Value → State → Outcome → State → Prop := vp_Si (fun r => r = (nI (od u)))
set_option maxHeartbeats 4000000 in
set_option maxRecDepth 100000 in
theorem c_X3_orderOf (l : Launch) (D : va_G) (nm : Nat) (tT : Nat) (mS : Nat) (cI : ClassId) (u : Nat) (hu : u < 256) : Met l yX3_orderOf wsX3_orderOf rm_c_X3_orderOf (va_Pc [.ref nm, .int (nI u)] (fun U => va_P D vwCl [(nm, .inr (5, [.ref tT, .ref mS])), (tT, .inl (cI, 256, .inl (aN ztab)))] U.heap ∧ va_K D vwCl [(cI, .int)] U)) (q_c_X3_orderOf D nm tT mS cI u) 0 0 (fun _ => False) := by
  refine Met.ofW (cc := cX3_orderOf) (maxL := 4) (ret := (some .int)) (by decide) rfl ?_
  intro p e s m args below meth c s₁ B hml hv
  obtain ⟨hargs, hP, hK⟩ := hv
  have hx := B.exec
  have hb := B.bytes
  have hr := B.returns
  have hts := atoms_spec (ws := wsX3_orderOf) B.pre
  have hown : s.vm.findClass RX3 = some m.cls := findClass_of_methodNamed B.named
  have hlocks := B.notSynchronized
  have hl := lv_entry ([.ref nm, .int (nI u)]) (n := 4) (Nat.le_of_ble_eq_true rfl)
  refine W.eq (g2 := F0 m 0 (lg_sl ([.ref nm, .int (nI u)]) ++ List.replicate (4 - (lg_sl ([.ref nm, .int (nI u)])).length) Slot.unset).toArray []) (by rw [hargs]; exact lg_entry_eq _ _ _) ?_
  generalize (lg_sl ([.ref nm, .int (nI u)]) ++ List.replicate (4 - (lg_sl ([.ref nm, .int (nI u)])).length) Slot.unset).toArray = ls at hl ⊢
  have hl : lv_has ls 4 [(0, .ref nm), (1, .int (nI u))] := hl
  refine lv_iconst (v := nI 1) hx hb dX3_orderOf_0 zki_1 ?_
  refine lv_istore_n (lv' := [(2, .int (nI 1)), (0, .ref nm), (1, .int (nI u))]) hx hb dX3_orderOf_1 rfl hl (by decide) rfl (fun ls hl => ?_)
  refine lv_iload_n hx hb dX3_orderOf_2 rfl (lv_at hl 2 rfl) ?_
  refine lv_istore_n (lv' := [(3, .int (nI u)), (2, .int (nI 1)), (0, .ref nm), (1, .int (nI u))]) hx hb dX3_orderOf_3 rfl hl (by decide) rfl (fun ls hl => ?_)
  have cut_4 : ∀ (n : Nat) (n9 : Nat) (xv : Nat) (d : Nat) (hd : d + n9 = 255) (hxv : xv < 256) (hinv : odf d xv u n9 = od u) (hn9 : d < n) (ls : Array Slot) (hl : lv_has ls 4 [(0, .ref nm), (1, .int (nI u)), (2, .int (nI n9)), (3, .int (nI xv))]), W p l e (headSpec wsX3_orderOf rm_c_X3_orderOf).room s m args below meth c s.heap [] 0 0 (MQ below (q_c_X3_orderOf D nm tT mS cI u) args s 0 0 (fun _ => False)) (F0 m 4 ls []) := by
    intro n
    induction n with
    | zero => intro n9 xv d hd hxv hinv hn9; exact absurd hn9 (Nat.not_lt_zero _)
    | succ n ih_4 =>
      intro n9 xv d hd hxv hinv hn9 ls hl
      refine lv_iload_n hx hb dX3_orderOf_4 rfl (lv_at hl 3 rfl) ?_
      refine lv_iconst (v := nI 1) hx hb dX3_orderOf_5 zki_1 ?_
      refine z_ceq (tgt := 29) hx hb (by omega) (by omega) dX3_orderOf_6 (by decide) (fun c_6 => ?_) (fun c_6 => ?_)
      · refine lv_iload_n hx hb dX3_orderOf_29 rfl (lv_at hl 2 rfl) ?_
        exact W.iret hx hb hr (fun t ht _ => ⟨_, rfl, (by first | (subst c_6; rw [odf_1] at hinv; exact congrArg nI hinv) | (rw [show d = 0 by omega] at hinv; exact congrArg nI hinv)), ht⟩) (fun _ h => nomatch h) dX3_orderOf_30
      · refine lv_iload_n hx hb dX3_orderOf_9 rfl (lv_at hl 2 rfl) ?_
        refine lv_sipush (v := nI 255) hx hb dX3_orderOf_10 zks_255 ?_
        refine z_cge (tgt := 29) hx hb (by omega) (by omega) dX3_orderOf_13 (by decide) (fun c_13 => ?_) (fun c_13 => ?_)
        · refine lv_iload_n hx hb dX3_orderOf_29 rfl (lv_at hl 2 rfl) ?_
          exact W.iret hx hb hr (fun t ht _ => ⟨_, rfl, (by first | (subst c_6; rw [odf_1] at hinv; exact congrArg nI hinv) | (rw [show d = 0 by omega] at hinv; exact congrArg nI hinv)), ht⟩) (fun _ h => nomatch h) dX3_orderOf_30
        · obtain ⟨d2, rfl⟩ : ∃ z, d = z + 1 := ⟨d - 1, by omega⟩
          rw [odf_s c_6] at hinv
          refine lv_aload_n hx hb dX3_orderOf_16 rfl (lv_at hl 0 rfl) ?_
          refine lv_iload_n hx hb dX3_orderOf_17 rfl (lv_at hl 3 rfl) ?_
          refine lv_iload_n hx hb dX3_orderOf_18 rfl (lv_at hl 1 rfl) ?_
          refine z_ci (va_runV (As := [.int (nI xv), .int (nI u)]) (rest := []) ⟨hx, hb, hml, hown, hts⟩ (c_X3_productOf l D nm tT mS cI xv u (by omega) (by omega)) (cwV 2 hts gX3_orderOf_X3_productOf rfl rfl rfl (by decide +kernel) ⟨Nat.le_of_ble_eq_true rfl, Nat.le_of_ble_eq_true rfl⟩) ⟨(z_fb1), va_recv hK hP (ci := 5) (q0 := 0) rfl rfl, fun U hU hW => ⟨rfl, by rw [hU]; exact hP, va_K.moved hW.alike hK⟩⟩ rfl rfl hl.1 rfl (lv_room (Nat.le_of_ble_eq_true rfl)) dX3_orderOf_19 ⟨Nat.le_of_ble_eq_true rfl, Nat.le_of_ble_eq_true rfl⟩) (fun r19 e19 => ?_)
          subst e19
          have hn19 : np xv u < 256 := np_lt (by omega) (by omega)
          refine lv_istore_n (lv' := [(3, .int (nI (np xv u))), (0, .ref nm), (1, .int (nI u)), (2, .int (nI n9))]) hx hb dX3_orderOf_22 rfl hl (by decide) rfl (fun ls hl => ?_)
          refine lv_iinc (v := (nI (n9 + 1))) (lv' := [(2, .int (nI (n9 + 1))), (3, .int (nI (np xv u))), (0, .ref nm), (1, .int (nI u))]) hx hb dX3_orderOf_23 hl (k := 3) rfl (z_inc n9 1) (by decide) rfl (fun ls hl => ?_)
          refine lv_goto (tgt := 4) hx hb dX3_orderOf_26 (by decide) ?_
          exact ih_4 (n9 + 1) (np xv u) d2 (by omega) (by omega) (hinv) (by omega) ls (lv_sub hl [2, 3, 0, 1] rfl)
  exact cut_4 (254 + 1) 1 u 254 (by omega) (by omega) (rfl) (Nat.lt_succ_self _) ls (lv_sub hl [2, 3, 1, 0] rfl)
abbrev rm_c_X3_fieldOf : Room := { frames := 0, cells := 0, slots := 0, locals := 0 }
abbrev q_c_X3_fieldOf (D : va_G) (nm : Nat) (tT : Nat) (mS : Nat) (cI : ClassId) (u : Nat) : Array Value → State → Outcome → State → Prop := vp_Si (fun r => r = (nI (fdo u)))
set_option maxHeartbeats 4000000 in
set_option maxRecDepth 100000 in
theorem c_X3_fieldOf (l : Launch) (D : va_G) (nm : Nat) (tT : Nat) (mS : Nat) (cI : ClassId) (u : Nat) (hu : u < 2147483648) : Met l yX3_fieldOf wsX3_fieldOf rm_c_X3_fieldOf (va_Pc [.ref nm, .int (nI u)] (fun _ => True)) (q_c_X3_fieldOf D nm tT mS cI u) 0 0 (fun _ => False) := by
  refine Met.ofW (cc := cX3_fieldOf) (maxL := 2) (ret := (some .int)) (by decide) rfl ?_
  intro p e s m args below meth c s₁ B hml hv
  obtain ⟨hargs, -⟩ := hv
  have hx := B.exec
  have hb := B.bytes
  have hr := B.returns
  have hts := atoms_spec (ws := wsX3_fieldOf) B.pre
  have hown : s.vm.findClass RX3 = some m.cls := findClass_of_methodNamed B.named
  have hlocks := B.notSynchronized
  have hl := lv_entry ([.ref nm, .int (nI u)]) (n := 2) (Nat.le_of_ble_eq_true rfl)
  refine W.eq (g2 := F0 m 0 (lg_sl ([.ref nm, .int (nI u)]) ++ List.replicate (2 - (lg_sl ([.ref nm, .int (nI u)])).length) Slot.unset).toArray []) (by rw [hargs]; exact lg_entry_eq _ _ _) ?_
  generalize (lg_sl ([.ref nm, .int (nI u)]) ++ List.replicate (2 - (lg_sl ([.ref nm, .int (nI u)])).length) Slot.unset).toArray = ls at hl ⊢
  have hl : lv_has ls 2 [(0, .ref nm), (1, .int (nI u))] := hl
  refine lv_iload_n hx hb dX3_fieldOf_0 rfl (lv_at hl 1 rfl) ?_
  refine lv_iconst (v := nI 2) hx hb dX3_fieldOf_1 zki_2 ?_
  refine z_cge (tgt := 7) hx hb (by omega) (by omega) dX3_fieldOf_2 (by decide) (fun c_2 => ?_) (fun c_2 => ?_)
  · refine lv_iload_n hx hb dX3_fieldOf_7 rfl (lv_at hl 1 rfl) ?_
    refine lv_iconst (v := nI 4) hx hb dX3_fieldOf_8 zki_4 ?_
    refine z_cge (tgt := 14) hx hb (by omega) (by omega) dX3_fieldOf_9 (by decide) (fun c_9 => ?_) (fun c_9 => ?_)
    · refine lv_iload_n hx hb dX3_fieldOf_14 rfl (lv_at hl 1 rfl) ?_
      refine lv_bipush (v := nI 16) hx hb dX3_fieldOf_15 zkb_16 ?_
      refine z_cge (tgt := 25) hx hb (by omega) (by omega) dX3_fieldOf_17 (by decide) (fun c_17 => ?_) (fun c_17 => ?_)
      · refine lv_sipush (v := nI 256) hx hb dX3_fieldOf_25 zks_256 ?_
        exact W.iret hx hb hr (fun t ht _ => ⟨_, rfl, (by rw [fdo, if_neg (by omega), if_neg (by omega), if_neg (by omega)]), ht⟩) (fun _ h => nomatch h) dX3_fieldOf_28
      · refine lv_bipush (v := nI 16) hx hb dX3_fieldOf_20 zkb_16 ?_
        refine lv_goto (tgt := 28) hx hb dX3_fieldOf_22 (by decide) ?_
        exact W.iret hx hb hr (fun t ht _ => ⟨_, rfl, (by rw [fdo, if_neg (by omega), if_neg (by omega), if_pos (by omega)]), ht⟩) (fun _ h => nomatch h) dX3_fieldOf_28
    · refine lv_iconst (v := nI 4) hx hb dX3_fieldOf_12 zki_4 ?_
      exact W.iret hx hb hr (fun t ht _ => ⟨_, rfl, (by rw [fdo, if_neg (by omega), if_pos (by omega)]), ht⟩) (fun _ h => nomatch h) dX3_fieldOf_13
  · refine lv_iconst (v := nI 2) hx hb dX3_fieldOf_5 zki_2 ?_
    exact W.iret hx hb hr (fun t ht _ => ⟨_, rfl, (by rw [fdo, if_pos (by omega)]), ht⟩) (fun _ h => nomatch h) dX3_fieldOf_6
abbrev rm_c_X3_squaringsOf : Room := { frames := 3, cells := 0, slots := 0, locals := 74 }
abbrev q_c_X3_squaringsOf (D : va_G) (nm : Nat) (tT : Nat) (mS : Nat) (cI : ClassId) (u : Nat) : Array Value → State → Outcome → State → Prop := vp_Si (fun r => r = (nI (sq u)))
set_option maxHeartbeats 4000000 in
set_option maxRecDepth 100000 in
theorem c_X3_squaringsOf (l : Launch) (D : va_G) (nm : Nat) (tT : Nat) (mS : Nat) (cI : ClassId) (u : Nat) (hu : u < 256) : Met l yX3_squaringsOf wsX3_squaringsOf rm_c_X3_squaringsOf (va_Pc [.ref nm, .int (nI u)] (fun U => va_P D vwCl [(nm, .inr (5, [.ref tT, .ref mS])), (tT, .inl (cI, 256, .inl (aN ztab)))] U.heap ∧ va_K D vwCl [(cI, .int)] U)) (q_c_X3_squaringsOf D nm tT mS cI u) 0 0 (fun _ => False) := by
  refine Met.ofW (cc := cX3_squaringsOf) (maxL := 4) (ret := (some .int)) (by decide) rfl ?_
  intro p e s m args below meth c s₁ B hml hv
  obtain ⟨hargs, hP, hK⟩ := hv
  have hx := B.exec
  have hb := B.bytes
  have hr := B.returns
  have hts := atoms_spec (ws := wsX3_squaringsOf) B.pre
  have hown : s.vm.findClass RX3 = some m.cls := findClass_of_methodNamed B.named
  have hlocks := B.notSynchronized
  have hl := lv_entry ([.ref nm, .int (nI u)]) (n := 4) (Nat.le_of_ble_eq_true rfl)
  refine W.eq (g2 := F0 m 0 (lg_sl ([.ref nm, .int (nI u)]) ++ List.replicate (4 - (lg_sl ([.ref nm, .int (nI u)])).length) Slot.unset).toArray []) (by rw [hargs]; exact lg_entry_eq _ _ _) ?_
  generalize (lg_sl ([.ref nm, .int (nI u)]) ++ List.replicate (4 - (lg_sl ([.ref nm, .int (nI u)])).length) Slot.unset).toArray = ls at hl ⊢
  have hl : lv_has ls 4 [(0, .ref nm), (1, .int (nI u))] := hl
  refine lv_iconst (v := nI 1) hx hb dX3_squaringsOf_0 zki_1 ?_
  refine lv_istore_n (lv' := [(2, .int (nI 1)), (0, .ref nm), (1, .int (nI u))]) hx hb dX3_squaringsOf_1 rfl hl (by decide) rfl (fun ls hl => ?_)
  refine lv_aload_n hx hb dX3_squaringsOf_2 rfl (lv_at hl 1 rfl) ?_
  refine lv_iload_n hx hb dX3_squaringsOf_3 rfl (lv_at hl 2 rfl) ?_
  refine z_ci (va_runV (As := [.int (nI u)]) (rest := []) ⟨hx, hb, hml, hown, hts⟩ (c_X3_squareOf l D nm tT mS cI u (by omega)) (cwV 1 hts gX3_squaringsOf_X3_squareOf rfl rfl rfl (by decide +kernel) ⟨Nat.le_of_ble_eq_true rfl, Nat.le_of_ble_eq_true rfl⟩) ⟨(z_fb1), va_recv hK hP (ci := 5) (q0 := 0) rfl rfl, fun U hU hW => ⟨rfl, by rw [hU]; exact hP, va_K.moved hW.alike hK⟩⟩ rfl rfl hl.1 rfl (lv_room (Nat.le_of_ble_eq_true rfl)) dX3_squaringsOf_4 ⟨Nat.le_of_ble_eq_true rfl, Nat.le_of_ble_eq_true rfl⟩) (fun r4 e4 => ?_)
  subst e4
  have hn4 : np u u < 256 := np_lt (by omega) (by omega)
  refine lv_istore_n (lv' := [(3, .int (nI (np u u))), (2, .int (nI 1)), (0, .ref nm), (1, .int (nI u))]) hx hb dX3_squaringsOf_7 rfl hl (by decide) rfl (fun ls hl => ?_)
  have cut_8 : ∀ (n : Nat) (n9 : Nat) (xv : Nat) (d : Nat) (hd : d + n9 = 8) (hxv : xv < 256) (hinv : sqf d xv u n9 = sq u) (hn9 : d < n) (ls : Array Slot) (hl : lv_has ls 4 [(0, .ref nm), (1, .int (nI u)), (2, .int (nI n9)), (3, .int (nI xv))]), W p l e (headSpec wsX3_squaringsOf rm_c_X3_squaringsOf).room s m args below meth c s.heap [] 0 0 (MQ below (q_c_X3_squaringsOf D nm tT mS cI u) args s 0 0 (fun _ => False)) (F0 m 8 ls []) := by
    intro n
    induction n with
    | zero => intro n9 xv d hd hxv hinv hn9; exact absurd hn9 (Nat.not_lt_zero _)
    | succ n ih_8 =>
      intro n9 xv d hd hxv hinv hn9 ls hl
      refine lv_iload_n hx hb dX3_squaringsOf_8 rfl (lv_at hl 3 rfl) ?_
      refine lv_iload_n hx hb dX3_squaringsOf_9 rfl (lv_at hl 1 rfl) ?_
      refine z_ceq (tgt := 31) hx hb (by omega) (by omega) dX3_squaringsOf_10 (by decide) (fun c_10 => ?_) (fun c_10 => ?_)
      · refine lv_iload_n hx hb dX3_squaringsOf_31 rfl (lv_at hl 2 rfl) ?_
        exact W.iret hx hb hr (fun t ht _ => ⟨_, rfl, (by first | (subst c_10; rw [sqf_1] at hinv; exact congrArg nI hinv) | (rw [show d = 0 by omega] at hinv; exact congrArg nI hinv)), ht⟩) (fun _ h => nomatch h) dX3_squaringsOf_32
      · refine lv_iload_n hx hb dX3_squaringsOf_13 rfl (lv_at hl 2 rfl) ?_
        refine lv_bipush (v := nI 8) hx hb dX3_squaringsOf_14 zkb_8 ?_
        refine z_cge (tgt := 31) hx hb (by omega) (by omega) dX3_squaringsOf_16 (by decide) (fun c_16 => ?_) (fun c_16 => ?_)
        · refine lv_iload_n hx hb dX3_squaringsOf_31 rfl (lv_at hl 2 rfl) ?_
          exact W.iret hx hb hr (fun t ht _ => ⟨_, rfl, (by first | (subst c_10; rw [sqf_1] at hinv; exact congrArg nI hinv) | (rw [show d = 0 by omega] at hinv; exact congrArg nI hinv)), ht⟩) (fun _ h => nomatch h) dX3_squaringsOf_32
        · obtain ⟨d2, rfl⟩ : ∃ z, d = z + 1 := ⟨d - 1, by omega⟩
          rw [sqf_s c_10] at hinv
          refine lv_aload_n hx hb dX3_squaringsOf_19 rfl (lv_at hl 0 rfl) ?_
          refine lv_iload_n hx hb dX3_squaringsOf_20 rfl (lv_at hl 3 rfl) ?_
          refine z_ci (va_runV (As := [.int (nI xv)]) (rest := []) ⟨hx, hb, hml, hown, hts⟩ (c_X3_squareOf l D nm tT mS cI xv (by omega)) (cwV 1 hts gX3_squaringsOf_X3_squareOf rfl rfl rfl (by decide +kernel) ⟨Nat.le_of_ble_eq_true rfl, Nat.le_of_ble_eq_true rfl⟩) ⟨(z_fb1), va_recv hK hP (ci := 5) (q0 := 0) rfl rfl, fun U hU hW => ⟨rfl, by rw [hU]; exact hP, va_K.moved hW.alike hK⟩⟩ rfl rfl hl.1 rfl (lv_room (Nat.le_of_ble_eq_true rfl)) dX3_squaringsOf_21 ⟨Nat.le_of_ble_eq_true rfl, Nat.le_of_ble_eq_true rfl⟩) (fun r21 e21 => ?_)
          subst e21
          have hn21 : np xv xv < 256 := np_lt (by omega) (by omega)
          refine lv_istore_n (lv' := [(3, .int (nI (np xv xv))), (0, .ref nm), (1, .int (nI u)), (2, .int (nI n9))]) hx hb dX3_squaringsOf_24 rfl hl (by decide) rfl (fun ls hl => ?_)
          refine lv_iinc (v := (nI (n9 + 1))) (lv' := [(2, .int (nI (n9 + 1))), (3, .int (nI (np xv xv))), (0, .ref nm), (1, .int (nI u))]) hx hb dX3_squaringsOf_25 hl (k := 3) rfl (z_inc n9 1) (by decide) rfl (fun ls hl => ?_)
          refine lv_goto (tgt := 8) hx hb dX3_squaringsOf_28 (by decide) ?_
          exact ih_8 (n9 + 1) (np xv xv) d2 (by omega) (by omega) (hinv) (by omega) ls (lv_sub hl [2, 3, 0, 1] rfl)
  exact cut_8 (7 + 1) 1 (np u u) 7 (by omega) (by omega) (rfl) (Nat.lt_succ_self _) ls (lv_sub hl [2, 3, 1, 0] rfl)
