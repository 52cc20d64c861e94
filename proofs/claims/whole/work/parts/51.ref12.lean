/-! The number at a place, where there is one. -/
theorem nI_m1 (q : Nat) : nI (q + 1) + (-1) = nI q := by
  rw [show nI (q + 1) = nI q + 1 from (z_inc q 1).symm, Int32.add_assoc]
  exact Int32.add_zero _
theorem nI_m2 (q : Nat) : nI q + (-1) + 1 = nI q := by
  rw [Int32.add_assoc]
  exact Int32.add_zero _
theorem nbk_is {f : Nat → Bool} {j t : Nat} (hj : j < 256) : ∀ n, n ≤ 256 → nbk f (nI j) n = some t → t < n ∧ f t = true ∧ cn f t = j
  | 0, _, h => by cases h
  | n + 1, hn, h => by
    have hc := cn_le f n
    unfold nbk at h
    split at h
    · have := nbk_is hj n (by omega) h
      exact ⟨by omega, this.2⟩
    · split at h
      · rename_i q2
        cases h
        refine ⟨by omega, q2.1, ?_⟩
        have h2 := congrArg Int32.toNatClampNeg q2.2
        rw [nI_clamp (by omega), nI_clamp (by omega)] at h2
        exact h2
      · cases h
theorem cn_mon9 (f : Nat → Bool) {a b : Nat} (h : a ≤ b) : cn f a ≤ cn f b := by
  induction b with
  | zero => rw [show a = 0 by omega]; exact Nat.le_refl _
  | succ b ih =>
    rcases Nat.lt_or_ge a (b + 1) with q | q
    · refine Nat.le_trans (ih (by omega)) ?_
      rw [cn]; omega
    · rw [show a = b + 1 by omega]; exact Nat.le_refl _
theorem nX6_numberAt_inX6 : ∀ w ∈ u_ws RX6 TX6 8, w ∈ wsX6_numberAt := by decide +kernel
abbrev rm_c_X6_numberAt_ok : Room := { frames := 1, cells := 0, slots := 0, locals := 25 }
abbrev q_c_X6_numberAt_ok (D : va_G) (sz : Nat) (mo : Nat) (ra : Nat) (ca : Nat) (ha : Nat) (ba : Nat) (wa : Nat) (kp : Nat) (hd : Nat) (kb : ClassId) (th : Nat) (bf : Nat → Bool) (j : Nat) (tt : Nat) : Array Value → State → Outcome → State → Prop := va_Qi (fun r (_ : Unit) => r = (nI tt)) (fun (_ : Unit) t => va_P D vwCl [(mo, .inr (8, [.int (nI 0), .ref ra, .ref ca, .ref ha, .int (nI kp), .ref ba, .int (nI hd), .ref wa])), (ba, .inl (kb, 256, .inl (aB bf)))] t.heap ∧ va_K D vwCl [(kb, .boolean)] t ∧ va_D (va_A [(mo, .inr (8, [.int (nI th), .ref ra, .ref ca, .ref ha, .int (nI kp), .ref ba, .int (nI hd), .ref wa])), (ba, .inl (kb, 256, .inl (aB bf)))] sz) [(mo, .inr (8, [.int (nI 0), .ref ra, .ref ca, .ref ha, .int (nI kp), .ref ba, .int (nI hd), .ref wa])), (ba, .inl (kb, 256, .inl (aB bf)))]) (va_A [(mo, .inr (8, [.int (nI th), .ref ra, .ref ca, .ref ha, .int (nI kp), .ref ba, .int (nI hd), .ref wa])), (ba, .inl (kb, 256, .inl (aB bf)))] sz)
set_option maxHeartbeats 4000000 in
set_option maxRecDepth 100000 in
theorem c_X6_numberAt_ok (l : Launch) (D : va_G) (sz : Nat) (mo : Nat) (ra : Nat) (ca : Nat) (ha : Nat) (ba : Nat) (wa : Nat) (kp : Nat) (hd : Nat) (kb : ClassId) (th : Nat) (bf : Nat → Bool) (j : Nat) (tt : Nat) (hj : j < 256) (hsl : nbk bf (nI j) 256 = some tt) : Met l yX6_numberAt wsX6_numberAt rm_c_X6_numberAt_ok (va_Pc [.ref mo, .int (nI j)] (fun U => U.heap.size = sz ∧ va_P D vwCl [(mo, .inr (8, [.int (nI th), .ref ra, .ref ca, .ref ha, .int (nI kp), .ref ba, .int (nI hd), .ref wa])), (ba, .inl (kb, 256, .inl (aB bf)))] U.heap ∧ va_K D vwCl [(kb, .boolean)] U ∧ va_D (fun _ => True) [(mo, .inr (8, [.int (nI th), .ref ra, .ref ca, .ref ha, .int (nI kp), .ref ba, .int (nI hd), .ref wa])), (ba, .inl (kb, 256, .inl (aB bf)))])) (q_c_X6_numberAt_ok D sz mo ra ca ha ba wa kp hd kb th bf j tt) 0 0 (va_A [(mo, .inr (8, [.int (nI th), .ref ra, .ref ca, .ref ha, .int (nI kp), .ref ba, .int (nI hd), .ref wa])), (ba, .inl (kb, 256, .inl (aB bf)))] sz) := by
  refine Met.ofW (cc := cX6_numberAt) (maxL := 5) (ret := (some .int)) (by decide) rfl ?_
  intro p e s m args below meth c s₁ B hml hv
  obtain ⟨hargs, hsz, hP, hK, hD0⟩ := hv
  have hx := B.exec
  have hb := B.bytes
  have hr := B.returns
  have hts := atoms_spec (ws := wsX6_numberAt) B.pre
  have hown : s.vm.findClass RX6 = some m.cls := findClass_of_methodNamed B.named
  have hlocks := B.notSynchronized
  subst hsz
  have hD := hD0.self (sz := s.heap.size)
  generalize hAe : va_A [(mo, .inr (8, [.int (nI th), .ref ra, .ref ca, .ref ha, .int (nI kp), .ref ba, .int (nI hd), .ref wa])), (ba, .inl (kb, 256, .inl (aB bf)))] s.heap.size = A at hD ⊢
  have hA : ∀ q : Nat, s.heap.size ≤ q → A q := fun q h => by rw [← hAe]; exact Or.inr h
  have hS : va_S A s.heap s.heap [] := va_S.rf
  have hl := lv_entry ([.ref mo, .int (nI j)]) (n := 5) (Nat.le_of_ble_eq_true rfl)
  refine W.eq (g2 := F0 m 0 (lg_sl ([.ref mo, .int (nI j)]) ++ List.replicate (5 - (lg_sl ([.ref mo, .int (nI j)])).length) Slot.unset).toArray []) (by rw [hargs]; exact lg_entry_eq _ _ _) ?_
  generalize (lg_sl ([.ref mo, .int (nI j)]) ++ List.replicate (5 - (lg_sl ([.ref mo, .int (nI j)])).length) Slot.unset).toArray = ls at hl ⊢
  have hl : lv_has ls 5 [(0, .ref mo), (1, .int (nI j))] := hl
  refine lv_aload_n hx hb dX6_numberAt_0 rfl (lv_at hl 0 rfl) ?_
  have hPc := hP.sub (ws' := [(mo, .inr (8, [.int (nI th), .ref ra, .ref ca, .ref ha, .int (nI kp), .ref ba, .int (nI hd), .ref wa])), (ba, .inl (kb, 256, .inl (aB bf)))]) [0, 1] rfl
  have hDc := hD.sub (ws' := [(mo, .inr (8, [.int (nI th), .ref ra, .ref ca, .ref ha, .int (nI kp), .ref ba, .int (nI hd), .ref wa])), (ba, .inl (kb, 256, .inl (aB bf)))]) [0, 1] (by decide) rfl
  have hKc := hK.sub (tys' := [(kb, .boolean)]) [0] rfl
  have hFc := va_free (wc := [(mo, .inr (8, [.int (nI th), .ref ra, .ref ca, .ref ha, .int (nI kp), .ref ba, .int (nI hd), .ref wa])), (ba, .inl (kb, 256, .inl (aB bf)))]) hD hS hA [0, 1] rfl
  refine va_calli (va_runV (As := []) (rest := []) ⟨hx, hb, hml, hown, hts⟩ (c_X6_size l D s.heap.size mo ra ca ha ba wa kp hd kb th bf ) (cwV 0 hts gX6_numberAt_X6_size rfl rfl rfl (by decide +kernel) ⟨Nat.le_of_ble_eq_true rfl, Nat.le_of_ble_eq_true rfl⟩) ⟨(z_fb2), va_recv hK hP (ci := 8) (q0 := 0) rfl rfl, fun U hU hW => ⟨rfl, by rw [hU], by rw [hU]; exact hPc, va_K.moved hW.alike hKc, hDc.weaken (fun _ _ _ _ => trivial)⟩⟩ rfl rfl hl.1 rfl (lv_room (Nat.le_of_ble_eq_true rfl)) dX6_numberAt_1 ⟨Nat.le_of_ble_eq_true rfl, Nat.le_of_ble_eq_true rfl⟩) hS (fun q _ h => hFc q h) hFc (fun r1 u1 t H locs ht hvm e1 hB hz1 hk1 hS => ?_)
  obtain ⟨hP1, hK1, hD1⟩ := hB
  rw [ht] at hP1
  obtain ⟨hP, hD⟩ := va_join (wr := []) (w1 := [(mo, .inr (8, [.int (nI 0), .ref ra, .ref ca, .ref ha, .int (nI kp), .ref ba, .int (nI hd), .ref wa])), (ba, .inl (kb, 256, .inl (aB bf)))]) hP hD [0, 1] [] rfl rfl (by decide) (by decide) hk1 hFc hP1 hD1
  have hP : va_P D vwCl [(mo, .inr (8, [.int (nI 0), .ref ra, .ref ca, .ref ha, .int (nI kp), .ref ba, .int (nI hd), .ref wa])), (ba, .inl (kb, 256, .inl (aB bf)))] H := hP
  have hD : va_D A [(mo, .inr (8, [.int (nI 0), .ref ra, .ref ca, .ref ha, .int (nI kp), .ref ba, .int (nI hd), .ref wa])), (ba, .inl (kb, 256, .inl (aB bf)))] := hD
  refine W.widen (k := 0) (n := 0) (Nat.le_of_ble_eq_true rfl) (Nat.le_of_ble_eq_true rfl) ?_
  subst e1
  have hcn1 := cn_le bf 256
  refine lv_istore_n (lv' := [(2, .int (nI (cn bf 256))), (0, .ref mo), (1, .int (nI j))]) hx hb dX6_numberAt_4 rfl hl (by decide) rfl (fun ls hl => ?_)
  refine lv_aload_n hx hb dX6_numberAt_5 rfl (lv_at hl 1 rfl) ?_
  refine lv_iload_n hx hb dX6_numberAt_6 rfl (lv_at hl 2 rfl) ?_
  refine z_flt (tgt := 15) hx hb (by omega) dX6_numberAt_7 (by decide) ?_
  obtain ⟨ht1, ht2, ht3⟩ := nbk_is hj 256 (by decide) hsl
  have ht4 : cn bf (tt + 1) = j + 1 := by rw [cn, ht2, ht3]; rfl
  have ht5 := cn_mon9 bf (show tt + 1 ≤ 256 by omega)
  refine lv_iload_n hx hb dX6_numberAt_10 rfl (lv_at hl 2 rfl) ?_
  refine lv_iload_n hx hb dX6_numberAt_11 rfl (lv_at hl 0 rfl) ?_
  refine z_clt (tgt := 19) hx hb (by omega) (by omega) dX6_numberAt_12 (by decide) (fun c_12 => ?_) (fun c_12 => absurd c_12 (by omega))
  refine lv_iconst (v := nI 0) hx hb dX6_numberAt_19 zki_0 ?_
  refine lv_iconst (v := nI 1) hx hb dX6_numberAt_20 zki_1 ?_
  have hPc := hP.sub (ws' := [(mo, .inr (8, [.int (nI 0), .ref ra, .ref ca, .ref ha, .int (nI kp), .ref ba, .int (nI hd), .ref wa]))]) [0] rfl
  have hDc := hD.sub (ws' := [(mo, .inr (8, [.int (nI 0), .ref ra, .ref ca, .ref ha, .int (nI kp), .ref ba, .int (nI hd), .ref wa]))]) [0] (by decide) rfl
  have hKc := hK.sub (tys' := []) [] rfl
  have hFc := va_free (wc := [(mo, .inr (8, [.int (nI 0), .ref ra, .ref ca, .ref ha, .int (nI kp), .ref ba, .int (nI hd), .ref wa]))]) hD hS hA [0] rfl
  refine va_calli (va_runV (As := [.int (nI 0), .int (nI 1)]) (rest := []) ⟨hx, hb, hml, hown, hts⟩ (c_X6_fails_false l D H.size mo ra ca ha ba wa kp hd 1 (by omega) (by omega)) (cwV 2 hts gX6_numberAt_X6_fails rfl rfl rfl (by decide +kernel) ⟨Nat.le_of_ble_eq_true rfl, Nat.le_of_ble_eq_true rfl⟩) ⟨(z_fb2), va_recv hK hP (ci := 8) (q0 := 0) rfl rfl, fun U hU hW => ⟨rfl, by rw [hU], by rw [hU]; exact hPc, va_K.moved hW.alike hKc, hDc.weaken (fun _ _ _ _ => trivial)⟩⟩ rfl rfl hl.1 rfl (lv_room (Nat.le_of_ble_eq_true rfl)) dX6_numberAt_21 ⟨Nat.le_of_ble_eq_true rfl, Nat.le_of_ble_eq_true rfl⟩) hS (fun q _ h => hFc q h) hFc (fun r21 u21 t H locs ht hvm e21 hB hz1 hk1 hS => ?_)
  obtain ⟨hP1, hK1, hD1⟩ := hB
  rw [ht] at hP1
  obtain ⟨hP, hD⟩ := va_join (wr := [(ba, .inl (kb, 256, .inl (aB bf)))]) (w1 := [(mo, .inr (8, [.int (nI 0), .ref ra, .ref ca, .ref ha, .int (nI kp), .ref ba, .int (nI hd), .ref wa]))]) hP hD [0] [1] rfl rfl (by decide) (by decide) hk1 hFc hP1 hD1
  have hP : va_P D vwCl [(ba, .inl (kb, 256, .inl (aB bf))), (mo, .inr (8, [.int (nI 0), .ref ra, .ref ca, .ref ha, .int (nI kp), .ref ba, .int (nI hd), .ref wa]))] H := hP
  have hD : va_D A [(ba, .inl (kb, 256, .inl (aB bf))), (mo, .inr (8, [.int (nI 0), .ref ra, .ref ca, .ref ha, .int (nI kp), .ref ba, .int (nI hd), .ref wa]))] := hD
  refine W.widen (k := 0) (n := 0) (Nat.le_of_ble_eq_true rfl) (Nat.le_of_ble_eq_true rfl) ?_
  subst e21
  refine z_beq (tgt := 29) hx hb dX6_numberAt_24 (by decide) (fun c_24 => ?_) (fun c_24 => absurd c_24 (by decide))
  refine lv_iconst (v := (-1)) hx hb dX6_numberAt_29 zki_m1 ?_
  refine lv_istore_n (lv' := [(3, .int (-1)), (2, .int (nI (cn bf 256))), (0, .ref mo), (1, .int (nI j))]) hx hb dX6_numberAt_30 rfl hl (by decide) rfl (fun ls hl => ?_)
  refine lv_iload_n hx hb dX6_numberAt_31 rfl (lv_at hl 3 rfl) ?_
  refine lv_istore (lv' := [(4, .int (nI j)), (3, .int (-1)), (2, .int (nI (cn bf 256))), (0, .ref mo), (1, .int (nI j))]) hx hb dX6_numberAt_32 hl (by decide) rfl (fun ls hl => ?_)
  have cut_34 : ∀ (nn9 : Nat) (q : Nat) (mm : Nat) (hm : cn bf q + mm = j + 1) (hq : q ≤ tt + 1) (hn9 : mm < nn9) (H : Heap) (locs : List Loc) (hP : va_P D vwCl [(mo, .inr (8, [.int (nI 0), .ref ra, .ref ca, .ref ha, .int (nI kp), .ref ba, .int (nI hd), .ref wa])), (ba, .inl (kb, 256, .inl (aB bf)))] H) (hD : va_D A [(mo, .inr (8, [.int (nI 0), .ref ra, .ref ca, .ref ha, .int (nI kp), .ref ba, .int (nI hd), .ref wa])), (ba, .inl (kb, 256, .inl (aB bf)))]) (hS : va_S A s.heap H locs) (ls : Array Slot) (hl : lv_has ls 5 [(0, .ref mo), (1, .int (nI j)), (2, .int (nI (cn bf 256))), (3, .int (nI q + (-1))), (4, .int (nI mm + (-1)))]), W p l e (headSpec wsX6_numberAt rm_c_X6_numberAt_ok).room s m args below meth c H locs 0 0 (MQ below (q_c_X6_numberAt_ok D s.heap.size mo ra ca ha ba wa kp hd kb th bf j tt) args s 0 0 A) (F0 m 34 ls []) := by
    intro nn9
    induction nn9 with
    | zero => intro q mm hm hq hn9; exact absurd hn9 (Nat.not_lt_zero _)
    | succ nn9 ih_34 =>
      intro q mm hm hq hn9 H locs hP hD hS ls hl
      refine lv_iload hx hb dX6_numberAt_34 (lv_at hl 4 rfl) ?_
      refine lv_if_lt (tgt := 63) hx hb dX6_numberAt_36 (by decide) (fun c_36 => ?_) (fun c_36 => ?_)
      · have hm0 : mm = 0 := by
          rcases Nat.eq_zero_or_pos mm with z | z
          · exact z
          · obtain ⟨m2, rfl⟩ : ∃ y, mm = y + 1 := ⟨mm - 1, by omega⟩
            rw [nI_m1] at c_36
            exact absurd c_36 (z_npos (by omega))
        have hqt : q = tt + 1 := by
          rcases Nat.lt_or_ge tt q with z | z
          · omega
          · have := cn_mon9 bf z; omega
        refine lv_iload_n hx hb dX6_numberAt_63 rfl (lv_at hl 3 rfl) ?_
        have hP9 := hP.sub (ws' := [(mo, .inr (8, [.int (nI 0), .ref ra, .ref ca, .ref ha, .int (nI kp), .ref ba, .int (nI hd), .ref wa])), (ba, .inl (kb, 256, .inl (aB bf)))]) [0, 1] rfl
        have hD9 := hD.sub (ws' := [(mo, .inr (8, [.int (nI 0), .ref ra, .ref ca, .ref ha, .int (nI kp), .ref ba, .int (nI hd), .ref wa])), (ba, .inl (kb, 256, .inl (aB bf)))]) [0, 1] (by decide) rfl
        have hK9 := hK.sub (tys' := [(kb, .boolean)]) [0] rfl
        subst hAe
        refine W.widen (k := 0) (n := 0) (Nat.le_of_ble_eq_true rfl) (Nat.le_of_ble_eq_true rfl) ?_
        exact W.iret hx hb hr (fun t ht hW => ⟨⟨_, (), rfl, (by rw [hqt]; exact nI_m1 tt), by rw [ht]; exact hP9, va_K.moved hW.alike hK9, hD9⟩, hS.F ht⟩) hS.2.2 dX6_numberAt_64
      · have hm0 : 0 < mm := by
          rcases Nat.eq_zero_or_pos mm with z | z
          · exact absurd (by rw [z]; decide) c_36
          · exact z
        have hqt : q ≤ tt := by
          rcases Nat.lt_or_ge tt q with z | z
          · rw [show q = tt + 1 by omega, ht4] at hm; omega
          · exact z
        refine lv_iinc (v := ((nI q + (-1)) + 1)) (lv' := [(3, .int ((nI q + (-1)) + 1)), (0, .ref mo), (1, .int (nI j)), (2, .int (nI (cn bf 256))), (4, .int (nI mm + (-1)))]) hx hb dX6_numberAt_39 hl (k := 3) rfl (rfl) (by decide) rfl (fun ls hl => ?_)
        have cut_42 : ∀ (nn9 : Nat) (pp : Nat) (hp : pp ≤ tt) (hcp : cn bf pp = cn bf q) (hn9 : tt - pp < nn9) (H : Heap) (locs : List Loc) (hP : va_P D vwCl [(mo, .inr (8, [.int (nI 0), .ref ra, .ref ca, .ref ha, .int (nI kp), .ref ba, .int (nI hd), .ref wa])), (ba, .inl (kb, 256, .inl (aB bf)))] H) (hD : va_D A [(mo, .inr (8, [.int (nI 0), .ref ra, .ref ca, .ref ha, .int (nI kp), .ref ba, .int (nI hd), .ref wa])), (ba, .inl (kb, 256, .inl (aB bf)))]) (hS : va_S A s.heap H locs) (ls : Array Slot) (hl : lv_has ls 5 [(0, .ref mo), (1, .int (nI j)), (2, .int (nI (cn bf 256))), (3, .int (nI pp)), (4, .int (nI mm + (-1)))]), W p l e (headSpec wsX6_numberAt rm_c_X6_numberAt_ok).room s m args below meth c H locs 0 0 (MQ below (q_c_X6_numberAt_ok D s.heap.size mo ra ca ha ba wa kp hd kb th bf j tt) args s 0 0 A) (F0 m 42 ls []) := by
          intro nn9
          induction nn9 with
          | zero => intro pp hp hcp hn9; exact absurd hn9 (Nat.not_lt_zero _)
          | succ nn9 ih_42 =>
            intro pp hp hcp hn9 H locs hP hD hS ls hl
            refine lv_aload_n hx hb dX6_numberAt_42 rfl (lv_at hl 0 rfl) ?_
            refine va_get (D := D) (ci := 8) (v := .ref ba) (C := RX6) (T := TX6) (N := 8) hx hb hts nX6_numberAt_inX6 hown hK hP 0 rfl rfl 5 (by decide) (hts (.fieldLink RX6 19 "GamefieldModel" "basket" "[Z") (by decide +kernel)) (fun _ h9 => h9) rfl dX6_numberAt_43 ?_
            refine lv_iload_n hx hb dX6_numberAt_46 rfl (lv_at hl 3 rfl) ?_
            refine z_zald hx hb hK hP 1 0 rfl rfl (by omega) (by decide) dX6_numberAt_47 ?_
            refine z_bne (tgt := 57) hx hb dX6_numberAt_48 (by decide) (fun c_48 => ?_) (fun c_48 => ?_)
            · have hp57 : cn bf (pp + 1) = cn bf pp + 1 := by rw [cn, c_48]; rfl
              refine lv_iinc (v := ((nI mm + (-1)) + (-1))) (lv' := [(4, .int ((nI mm + (-1)) + (-1))), (0, .ref mo), (1, .int (nI j)), (2, .int (nI (cn bf 256))), (3, .int (nI pp))]) hx hb dX6_numberAt_57 hl (k := 4) rfl (rfl) (by decide) rfl (fun ls hl => ?_)
              refine lv_goto (tgt := 34) hx hb dX6_numberAt_60 (by decide) ?_
              have hl : lv_has ls 5 [(4, .int ((nI mm + (-1)) + (-1))), (0, .ref mo), (1, .int (nI j)), (2, .int (nI (cn bf 256))), (3, .int (nI (pp + 1) + (-1)))] := Eq.mp (congrArg (fun z9 => lv_has ls 5 [(4, .int ((nI mm + (-1)) + (-1))), (0, .ref mo), (1, .int (nI j)), (2, .int (nI (cn bf 256))), (3, .int z9)]) ((show (nI pp) = (nI (pp + 1) + (-1)) from (nI_m1 pp).symm))) hl
              have hl : lv_has ls 5 [(4, .int (nI (mm - 1) + (-1))), (0, .ref mo), (1, .int (nI j)), (2, .int (nI (cn bf 256))), (3, .int (nI (pp + 1) + (-1)))] := Eq.mp (congrArg (fun z9 => lv_has ls 5 [(4, .int z9), (0, .ref mo), (1, .int (nI j)), (2, .int (nI (cn bf 256))), (3, .int (nI (pp + 1) + (-1)))]) ((show ((nI mm + (-1)) + (-1)) = (nI (mm - 1) + (-1)) from by rw [show mm = (mm - 1) + 1 by omega, nI_m1]; rfl))) hl
              exact ih_34 (pp + 1) (mm - 1) (by omega) (by omega) (by omega) H locs hP hD hS ls (lv_sub hl [1, 2, 3, 4, 0] rfl)
            · refine lv_iinc (v := (nI (pp + 1))) (lv' := [(3, .int (nI (pp + 1))), (0, .ref mo), (1, .int (nI j)), (2, .int (nI (cn bf 256))), (4, .int (nI mm + (-1)))]) hx hb dX6_numberAt_51 hl (k := 3) rfl (z_inc pp 1) (by decide) rfl (fun ls hl => ?_)
              refine lv_goto (tgt := 42) hx hb dX6_numberAt_54 (by decide) ?_
              exact ih_42 (pp + 1) (Nat.lt_of_le_of_ne hp (fun z => by rw [z, ht2] at c_48; cases c_48)) (by rw [cn, c_48]; exact hcp) (by have z9 := Nat.lt_of_le_of_ne hp (fun z => by rw [z, ht2] at c_48; cases c_48); omega) H locs hP hD hS ls (lv_sub hl [1, 2, 3, 0, 4] rfl)
        have hl : lv_has ls 5 [(3, .int (nI q)), (0, .ref mo), (1, .int (nI j)), (2, .int (nI (cn bf 256))), (4, .int (nI mm + (-1)))] := Eq.mp (congrArg (fun z9 => lv_has ls 5 [(3, .int z9), (0, .ref mo), (1, .int (nI j)), (2, .int (nI (cn bf 256))), (4, .int (nI mm + (-1)))]) ((show ((nI q + (-1)) + 1) = (nI q) from nI_m2 q))) hl
        exact cut_42 ((tt - q) + 1) q (by omega) (rfl) (Nat.lt_succ_self _) H locs hP hD hS ls (lv_sub hl [1, 2, 3, 0, 4] rfl)
  have hl : lv_has ls 5 [(4, .int (nI j)), (3, .int (nI 0 + (-1))), (2, .int (nI (cn bf 256))), (0, .ref mo), (1, .int (nI j))] := Eq.mp (congrArg (fun z9 => lv_has ls 5 [(4, .int (nI j)), (3, .int z9), (2, .int (nI (cn bf 256))), (0, .ref mo), (1, .int (nI j))]) ((show (-1) = (nI 0 + (-1)) from by decide))) hl
  have hl : lv_has ls 5 [(4, .int (nI (j + 1) + (-1))), (3, .int (nI 0 + (-1))), (2, .int (nI (cn bf 256))), (0, .ref mo), (1, .int (nI j))] := Eq.mp (congrArg (fun z9 => lv_has ls 5 [(4, .int z9), (3, .int (nI 0 + (-1))), (2, .int (nI (cn bf 256))), (0, .ref mo), (1, .int (nI j))]) ((show (nI j) = (nI (j + 1) + (-1)) from (nI_m1 j).symm))) hl
  exact cut_34 ((j + 1) + 1) 0 (j + 1) (by rw [cn]; omega) (by omega) (Nat.lt_succ_self _) H locs (hP.sub [1, 0] rfl) (hD.sub [1, 0] (by decide) rfl) hS ls (lv_sub hl [3, 4, 2, 1, 0] rfl)
