/-! The reference's checks. -/
theorem mxr_s (f : Nat → Nat) (c : Int64) (k v : Nat) (h : f k = v) : 31 * mxr f c k + lN v = mxr f c (k + 1) := by
  show _ = mx (mxr f c k) (f k)
  rw [h]; rfl
theorem nX6_checksum_inX6 : ∀ w ∈ u_ws RX6 TX6 8, w ∈ wsX6_checksum := by decide +kernel
theorem nX6_isSound_inX6 : ∀ w ∈ u_ws RX6 TX6 8, w ∈ wsX6_isSound := by decide +kernel
abbrev rm_c_X6_checksum : Room := { frames := 2, cells := 0, slots := 0, locals := 43 }
abbrev q_c_X6_checksum (D : va_G) (sz : Nat) (mo : Nat) (ra : Nat) (ca : Nat) (ha : Nat) (ba : Nat) (wa : Nat) (kp : Nat) (hd : Nat) (kr : ClassId) (kc : ClassId) (kh : ClassId) (th : Nat) (rf : Nat → Nat) (cf : Nat → Nat) (hf : Nat → Nat) (kb : ClassId) (bf : Nat → Bool) : Array Value → State → Outcome → State → Prop := va_Ql (fun r (_ : Unit) => r = mx (mxr (fun q => (hd.testBit q).toNat) (mxb bf (mx (mxr rf 17 8) (cn bf 256)) 256) 16) kp) (fun (_ : Unit) t => va_P D vwCl [(mo, .inr (8, [.int (nI 0), .ref ra, .ref ca, .ref ha, .int (nI kp), .ref ba, .int (nI hd), .ref wa])), (ra, .inl (kr, 8, .inl (aN rf))), (ca, .inl (kc, 8, .inl (aN cf))), (ha, .inl (kh, 8, .inl (aN hf))), (ba, .inl (kb, 256, .inl (aB bf)))] t.heap ∧ va_K D vwCl [(kr, .int), (kc, .int), (kh, .int), (kb, .boolean)] t ∧ va_D (va_A [(mo, .inr (8, [.int (nI th), .ref ra, .ref ca, .ref ha, .int (nI kp), .ref ba, .int (nI hd), .ref wa])), (ra, .inl (kr, 8, .inl (aN rf))), (ca, .inl (kc, 8, .inl (aN cf))), (ha, .inl (kh, 8, .inl (aN hf))), (ba, .inl (kb, 256, .inl (aB bf)))] sz) [(mo, .inr (8, [.int (nI 0), .ref ra, .ref ca, .ref ha, .int (nI kp), .ref ba, .int (nI hd), .ref wa])), (ra, .inl (kr, 8, .inl (aN rf))), (ca, .inl (kc, 8, .inl (aN cf))), (ha, .inl (kh, 8, .inl (aN hf))), (ba, .inl (kb, 256, .inl (aB bf)))]) (va_A [(mo, .inr (8, [.int (nI th), .ref ra, .ref ca, .ref ha, .int (nI kp), .ref ba, .int (nI hd), .ref wa])), (ra, .inl (kr, 8, .inl (aN rf))), (ca, .inl (kc, 8, .inl (aN cf))), (ha, .inl (kh, 8, .inl (aN hf))), (ba, .inl (kb, 256, .inl (aB bf)))] sz)
set_option maxHeartbeats 4000000 in
set_option maxRecDepth 100000 in
theorem c_X6_checksum (l : Launch) (D : va_G) (sz : Nat) (mo : Nat) (ra : Nat) (ca : Nat) (ha : Nat) (ba : Nat) (wa : Nat) (kp : Nat) (hd : Nat) (kr : ClassId) (kc : ClassId) (kh : ClassId) (th : Nat) (rf : Nat → Nat) (cf : Nat → Nat) (hf : Nat → Nat) (kb : ClassId) (bf : Nat → Bool) (hrf : ∀ k, k < 8 → rf k < 256) (hkp : kp ≤ 8) (hhd : hd < 65536) : Met l yX6_checksum wsX6_checksum rm_c_X6_checksum (va_Pc [.ref mo] (fun U => U.heap.size = sz ∧ va_P D vwCl [(mo, .inr (8, [.int (nI th), .ref ra, .ref ca, .ref ha, .int (nI kp), .ref ba, .int (nI hd), .ref wa])), (ra, .inl (kr, 8, .inl (aN rf))), (ca, .inl (kc, 8, .inl (aN cf))), (ha, .inl (kh, 8, .inl (aN hf))), (ba, .inl (kb, 256, .inl (aB bf)))] U.heap ∧ va_K D vwCl [(kr, .int), (kc, .int), (kh, .int), (kb, .boolean)] U ∧ va_D (fun _ => True) [(mo, .inr (8, [.int (nI th), .ref ra, .ref ca, .ref ha, .int (nI kp), .ref ba, .int (nI hd), .ref wa])), (ra, .inl (kr, 8, .inl (aN rf))), (ca, .inl (kc, 8, .inl (aN cf))), (ha, .inl (kh, 8, .inl (aN hf))), (ba, .inl (kb, 256, .inl (aB bf)))])) (q_c_X6_checksum D sz mo ra ca ha ba wa kp hd kr kc kh th rf cf hf kb bf) 0 0 (va_A [(mo, .inr (8, [.int (nI th), .ref ra, .ref ca, .ref ha, .int (nI kp), .ref ba, .int (nI hd), .ref wa])), (ra, .inl (kr, 8, .inl (aN rf))), (ca, .inl (kc, 8, .inl (aN cf))), (ha, .inl (kh, 8, .inl (aN hf))), (ba, .inl (kb, 256, .inl (aB bf)))] sz) := by
  refine Met.ofW (cc := cX6_checksum) (maxL := 7) (ret := (some .long)) (by decide) rfl ?_
  intro p e s m args below meth c s₁ B hml hv
  obtain ⟨hargs, hsz, hP, hK, hD0⟩ := hv
  have hx := B.exec
  have hb := B.bytes
  have hr := B.returns
  have hts := atoms_spec (ws := wsX6_checksum) B.pre
  have hown : s.vm.findClass RX6 = some m.cls := findClass_of_methodNamed B.named
  have hlocks := B.notSynchronized
  subst hsz
  have hD := hD0.self (sz := s.heap.size)
  generalize hAe : va_A [(mo, .inr (8, [.int (nI th), .ref ra, .ref ca, .ref ha, .int (nI kp), .ref ba, .int (nI hd), .ref wa])), (ra, .inl (kr, 8, .inl (aN rf))), (ca, .inl (kc, 8, .inl (aN cf))), (ha, .inl (kh, 8, .inl (aN hf))), (ba, .inl (kb, 256, .inl (aB bf)))] s.heap.size = A at hD ⊢
  have hA : ∀ q : Nat, s.heap.size ≤ q → A q := fun q h => by rw [← hAe]; exact Or.inr h
  have hS : va_S A s.heap s.heap [] := va_S.rf
  have hl := lv_entry ([.ref mo]) (n := 7) (Nat.le_of_ble_eq_true rfl)
  refine W.eq (g2 := F0 m 0 (lg_sl ([.ref mo]) ++ List.replicate (7 - (lg_sl ([.ref mo])).length) Slot.unset).toArray []) (by rw [hargs]; exact lg_entry_eq _ _ _) ?_
  generalize (lg_sl ([.ref mo]) ++ List.replicate (7 - (lg_sl ([.ref mo])).length) Slot.unset).toArray = ls at hl ⊢
  have hl : lv_has ls 7 [(0, .ref mo)] := hl
  refine lv_ldc2 (v := 17) hx hb hown (hts (.constantLong RX6 120 (17)) (by decide +kernel)) dX6_checksum_0 ?_
  refine lv_lstore_n (lv' := [(1, .long (17 : Int64)), (0, .ref mo)]) hx hb dX6_checksum_3 rfl hl (by decide) rfl (fun ls hl => ?_)
  refine lv_aload_n hx hb dX6_checksum_4 rfl (lv_at hl 1 rfl) ?_
  refine va_get (D := D) (ci := 8) (v := .ref ra) (C := RX6) (T := TX6) (N := 8) hx hb hts nX6_checksum_inX6 hown hK hP 0 rfl rfl 1 (by decide) (hts (.fieldLink RX6 9 "GamefieldModel" "registers" "[I") (by decide +kernel)) (fun _ h9 => h9) rfl dX6_checksum_5 ?_
  refine lv_astore_n (lv' := [(3, .ref ra), (1, .long (17 : Int64)), (0, .ref mo)]) hx hb dX6_checksum_8 rfl hl (by decide) rfl (fun ls hl => ?_)
  refine lv_aload_n hx hb dX6_checksum_9 rfl (lv_at hl 0 rfl) ?_
  refine va_alen (v := nI 8) hx hb hK hP 1 0 rfl rfl rfl dX6_checksum_10 ?_
  refine lv_istore (lv' := [(4, .int (nI 8)), (3, .ref ra), (1, .long (17 : Int64)), (0, .ref mo)]) hx hb dX6_checksum_11 hl (by decide) rfl (fun ls hl => ?_)
  refine lv_iconst (v := nI 0) hx hb dX6_checksum_13 zki_0 ?_
  refine lv_istore (lv' := [(5, .int (nI 0)), (4, .int (nI 8)), (3, .ref ra), (1, .long (17 : Int64)), (0, .ref mo)]) hx hb dX6_checksum_14 hl (by decide) rfl (fun ls hl => ?_)
  have cut_16 : ∀ (nn9 : Nat) (i : Nat) (hi : i ≤ 8) (hn9 : 8 - i < nn9) (H : Heap) (locs : List Loc) (hP : va_P D vwCl [(mo, .inr (8, [.int (nI th), .ref ra, .ref ca, .ref ha, .int (nI kp), .ref ba, .int (nI hd), .ref wa])), (ra, .inl (kr, 8, .inl (aN rf))), (ca, .inl (kc, 8, .inl (aN cf))), (ha, .inl (kh, 8, .inl (aN hf))), (ba, .inl (kb, 256, .inl (aB bf)))] H) (hD : va_D A [(mo, .inr (8, [.int (nI th), .ref ra, .ref ca, .ref ha, .int (nI kp), .ref ba, .int (nI hd), .ref wa])), (ra, .inl (kr, 8, .inl (aN rf))), (ca, .inl (kc, 8, .inl (aN cf))), (ha, .inl (kh, 8, .inl (aN hf))), (ba, .inl (kb, 256, .inl (aB bf)))]) (hS : va_S A s.heap H locs) (ls : Array Slot) (hl : lv_has ls 7 [(0, .ref mo), (1, .long (mxr rf 17 i)), (3, .ref ra), (4, .int (nI 8)), (5, .int (nI i))]), W p l e (headSpec wsX6_checksum rm_c_X6_checksum).room s m args below meth c H locs 0 0 (MQ below (q_c_X6_checksum D s.heap.size mo ra ca ha ba wa kp hd kr kc kh th rf cf hf kb bf) args s 0 0 A) (F0 m 16 ls []) := by
    intro nn9
    induction nn9 with
    | zero => intro i hi hn9; exact absurd hn9 (Nat.not_lt_zero _)
    | succ nn9 ih_16 =>
      intro i hi hn9 H locs hP hD hS ls hl
      refine lv_iload hx hb dX6_checksum_16 (lv_at hl 4 rfl) ?_
      refine lv_iload hx hb dX6_checksum_18 (lv_at hl 3 rfl) ?_
      refine z_cge (tgt := 45) hx hb (by omega) (by omega) dX6_checksum_20 (by decide) (fun c_20 => ?_) (fun c_20 => ?_)
      · refine lv_ldc2 (v := 31) hx hb hown (hts (.constantLong RX6 122 (31)) (by decide +kernel)) dX6_checksum_45 ?_
        refine lv_lload_n hx hb dX6_checksum_48 rfl (lv_at hl 1 rfl) ?_
        refine lv_lmul hx hb dX6_checksum_49 ?_
        refine lv_aload_n hx hb dX6_checksum_50 rfl (lv_at hl 0 rfl) ?_
        have hPc := hP.sub (ws' := [(mo, .inr (8, [.int (nI th), .ref ra, .ref ca, .ref ha, .int (nI kp), .ref ba, .int (nI hd), .ref wa])), (ba, .inl (kb, 256, .inl (aB bf)))]) [0, 4] rfl
        have hDc := hD.sub (ws' := [(mo, .inr (8, [.int (nI th), .ref ra, .ref ca, .ref ha, .int (nI kp), .ref ba, .int (nI hd), .ref wa])), (ba, .inl (kb, 256, .inl (aB bf)))]) [0, 4] (by decide) rfl
        have hKc := hK.sub (tys' := [(kb, .boolean)]) [3] rfl
        have hFc := va_free (wc := [(mo, .inr (8, [.int (nI th), .ref ra, .ref ca, .ref ha, .int (nI kp), .ref ba, .int (nI hd), .ref wa])), (ba, .inl (kb, 256, .inl (aB bf)))]) hD hS hA [0, 4] rfl
        refine va_calli (va_runV (As := []) (rest := [.long ((31 : Int64) * mxr rf 17 i)]) ⟨hx, hb, hml, hown, hts⟩ (c_X6_size l D H.size mo ra ca ha ba wa kp hd kb th bf ) (cwV 0 hts gX6_checksum_X6_size rfl rfl rfl (by decide +kernel) ⟨Nat.le_of_ble_eq_true rfl, Nat.le_of_ble_eq_true rfl⟩) ⟨(z_fb2), va_recv hK hP (ci := 8) (q0 := 0) rfl rfl, fun U hU hW => ⟨rfl, by rw [hU], by rw [hU]; exact hPc, va_K.moved hW.alike hKc, hDc.weaken (fun _ _ _ _ => trivial)⟩⟩ rfl rfl hl.1 rfl (lv_room (Nat.le_of_ble_eq_true rfl)) dX6_checksum_51 ⟨Nat.le_of_ble_eq_true rfl, Nat.le_of_ble_eq_true rfl⟩) hS (fun q _ h => hFc q h) hFc (fun r51 u51 t H locs ht hvm e51 hB hz1 hk1 hS => ?_)
        obtain ⟨hP1, hK1, hD1⟩ := hB
        rw [ht] at hP1
        obtain ⟨hP, hD⟩ := va_join (wr := [(ra, .inl (kr, 8, .inl (aN rf))), (ca, .inl (kc, 8, .inl (aN cf))), (ha, .inl (kh, 8, .inl (aN hf)))]) (w1 := [(mo, .inr (8, [.int (nI 0), .ref ra, .ref ca, .ref ha, .int (nI kp), .ref ba, .int (nI hd), .ref wa])), (ba, .inl (kb, 256, .inl (aB bf)))]) hP hD [0, 4] [1, 2, 3] rfl rfl (by decide) (by decide) hk1 hFc hP1 hD1
        have hP : va_P D vwCl [(ra, .inl (kr, 8, .inl (aN rf))), (ca, .inl (kc, 8, .inl (aN cf))), (ha, .inl (kh, 8, .inl (aN hf))), (mo, .inr (8, [.int (nI 0), .ref ra, .ref ca, .ref ha, .int (nI kp), .ref ba, .int (nI hd), .ref wa])), (ba, .inl (kb, 256, .inl (aB bf)))] H := hP
        have hD : va_D A [(ra, .inl (kr, 8, .inl (aN rf))), (ca, .inl (kc, 8, .inl (aN cf))), (ha, .inl (kh, 8, .inl (aN hf))), (mo, .inr (8, [.int (nI 0), .ref ra, .ref ca, .ref ha, .int (nI kp), .ref ba, .int (nI hd), .ref wa])), (ba, .inl (kb, 256, .inl (aB bf)))] := hD
        refine W.widen (k := 0) (n := 0) (Nat.le_of_ble_eq_true rfl) (Nat.le_of_ble_eq_true rfl) ?_
        subst e51
        have hcn51 := cn_le bf 256
        refine lv_i2l (v := lN (cn bf 256)) hx hb dX6_checksum_54 (z_i2l (by omega)) ?_
        refine lv_ladd hx hb dX6_checksum_55 ?_
        refine lv_lstore_n (lv' := [(1, .long (((31 : Int64) * mxr rf 17 i) + (lN (cn bf 256)))), (0, .ref mo), (3, .ref ra), (4, .int (nI 8)), (5, .int (nI i))]) hx hb dX6_checksum_56 rfl hl (by decide) rfl (fun ls hl => ?_)
        refine lv_iconst (v := nI 0) hx hb dX6_checksum_57 zki_0 ?_
        refine lv_istore_n (lv' := [(3, .int (nI 0)), (1, .long (((31 : Int64) * mxr rf 17 i) + (lN (cn bf 256)))), (0, .ref mo), (4, .int (nI 8)), (5, .int (nI i))]) hx hb dX6_checksum_58 rfl hl (by decide) rfl (fun ls hl => ?_)
        have cut_59 : ∀ (nn9 : Nat) (i : Nat) (hi : i ≤ 256) (hn9 : 256 - i < nn9) (H : Heap) (locs : List Loc) (hP : va_P D vwCl [(mo, .inr (8, [.int (nI 0), .ref ra, .ref ca, .ref ha, .int (nI kp), .ref ba, .int (nI hd), .ref wa])), (ra, .inl (kr, 8, .inl (aN rf))), (ca, .inl (kc, 8, .inl (aN cf))), (ha, .inl (kh, 8, .inl (aN hf))), (ba, .inl (kb, 256, .inl (aB bf)))] H) (hD : va_D A [(mo, .inr (8, [.int (nI 0), .ref ra, .ref ca, .ref ha, .int (nI kp), .ref ba, .int (nI hd), .ref wa])), (ra, .inl (kr, 8, .inl (aN rf))), (ca, .inl (kc, 8, .inl (aN cf))), (ha, .inl (kh, 8, .inl (aN hf))), (ba, .inl (kb, 256, .inl (aB bf)))]) (hS : va_S A s.heap H locs) (ls : Array Slot) (hl : lv_has ls 7 [(0, .ref mo), (1, .long (mxb bf (mx (mxr rf 17 8) (cn bf 256)) i)), (3, .int (nI i))]), W p l e (headSpec wsX6_checksum rm_c_X6_checksum).room s m args below meth c H locs 0 0 (MQ below (q_c_X6_checksum D s.heap.size mo ra ca ha ba wa kp hd kr kc kh th rf cf hf kb bf) args s 0 0 A) (F0 m 59 ls []) := by
          intro nn9
          induction nn9 with
          | zero => intro i hi hn9; exact absurd hn9 (Nat.not_lt_zero _)
          | succ nn9 ih_59 =>
            intro i hi hn9 H locs hP hD hS ls hl
            refine lv_iload_n hx hb dX6_checksum_59 rfl (lv_at hl 2 rfl) ?_
            refine lv_sipush (v := nI 256) hx hb dX6_checksum_60 zks_256 ?_
            refine z_cge (tgt := 94) hx hb (by omega) (by omega) dX6_checksum_63 (by decide) (fun c_63 => ?_) (fun c_63 => ?_)
            · refine lv_iconst (v := nI 0) hx hb dX6_checksum_94 zki_0 ?_
              refine lv_istore_n (lv' := [(3, .int (nI 0)), (0, .ref mo), (1, .long (mxb bf (mx (mxr rf 17 8) (cn bf 256)) i))]) hx hb dX6_checksum_95 rfl hl (by decide) rfl (fun ls hl => ?_)
              have cut_96 : ∀ (nn9 : Nat) (x : Nat) (hx4 : x ≤ 4) (hn9 : 4 - x < nn9) (H : Heap) (locs : List Loc) (hP : va_P D vwCl [(mo, .inr (8, [.int (nI 0), .ref ra, .ref ca, .ref ha, .int (nI kp), .ref ba, .int (nI hd), .ref wa])), (ra, .inl (kr, 8, .inl (aN rf))), (ca, .inl (kc, 8, .inl (aN cf))), (ha, .inl (kh, 8, .inl (aN hf))), (ba, .inl (kb, 256, .inl (aB bf)))] H) (hD : va_D A [(mo, .inr (8, [.int (nI 0), .ref ra, .ref ca, .ref ha, .int (nI kp), .ref ba, .int (nI hd), .ref wa])), (ra, .inl (kr, 8, .inl (aN rf))), (ca, .inl (kc, 8, .inl (aN cf))), (ha, .inl (kh, 8, .inl (aN hf))), (ba, .inl (kb, 256, .inl (aB bf)))]) (hS : va_S A s.heap H locs) (ls : Array Slot) (hl : lv_has ls 7 [(0, .ref mo), (1, .long (mxr (fun q => (hd.testBit q).toNat) (mxb bf (mx (mxr rf 17 8) (cn bf 256)) 256) (4 * x))), (3, .int (nI x))]), W p l e (headSpec wsX6_checksum rm_c_X6_checksum).room s m args below meth c H locs 0 0 (MQ below (q_c_X6_checksum D s.heap.size mo ra ca ha ba wa kp hd kr kc kh th rf cf hf kb bf) args s 0 0 A) (F0 m 96 ls []) := by
                intro nn9
                induction nn9 with
                | zero => intro x hx4 hn9; exact absurd hn9 (Nat.not_lt_zero _)
                | succ nn9 ih_96 =>
                  intro x hx4 hn9 H locs hP hD hS ls hl
                  refine lv_iload_n hx hb dX6_checksum_96 rfl (lv_at hl 2 rfl) ?_
                  refine lv_iconst (v := nI 4) hx hb dX6_checksum_97 zki_4 ?_
                  refine z_cge (tgt := 148) hx hb (by omega) (by omega) dX6_checksum_98 (by decide) (fun c_98 => ?_) (fun c_98 => ?_)
                  · refine lv_ldc2 (v := 31) hx hb hown (hts (.constantLong RX6 122 (31)) (by decide +kernel)) dX6_checksum_148 ?_
                    refine lv_lload_n hx hb dX6_checksum_151 rfl (lv_at hl 1 rfl) ?_
                    refine lv_lmul hx hb dX6_checksum_152 ?_
                    refine lv_aload_n hx hb dX6_checksum_153 rfl (lv_at hl 0 rfl) ?_
                    refine va_get (D := D) (ci := 8) (v := .int (nI kp)) (C := RX6) (T := TX6) (N := 8) hx hb hts nX6_checksum_inX6 hown hK hP 0 rfl rfl 4 (by decide) (hts (.fieldLink RX6 49 "GamefieldModel" "kept" "I") (by decide +kernel)) (fun _ h9 => h9) rfl dX6_checksum_154 ?_
                    refine lv_i2l (v := lN kp) hx hb dX6_checksum_157 (z_i2l (by omega)) ?_
                    refine lv_ladd hx hb dX6_checksum_158 ?_
                    have hP9 := hP.sub (ws' := [(mo, .inr (8, [.int (nI 0), .ref ra, .ref ca, .ref ha, .int (nI kp), .ref ba, .int (nI hd), .ref wa])), (ra, .inl (kr, 8, .inl (aN rf))), (ca, .inl (kc, 8, .inl (aN cf))), (ha, .inl (kh, 8, .inl (aN hf))), (ba, .inl (kb, 256, .inl (aB bf)))]) [0, 1, 2, 3, 4] rfl
                    have hD9 := hD.sub (ws' := [(mo, .inr (8, [.int (nI 0), .ref ra, .ref ca, .ref ha, .int (nI kp), .ref ba, .int (nI hd), .ref wa])), (ra, .inl (kr, 8, .inl (aN rf))), (ca, .inl (kc, 8, .inl (aN cf))), (ha, .inl (kh, 8, .inl (aN hf))), (ba, .inl (kb, 256, .inl (aB bf)))]) [0, 1, 2, 3, 4] (by decide) rfl
                    have hK9 := hK.sub (tys' := [(kr, .int), (kc, .int), (kh, .int), (kb, .boolean)]) [0, 1, 2, 3] rfl
                    subst hAe
                    refine W.widen (k := 0) (n := 0) (Nat.le_of_ble_eq_true rfl) (Nat.le_of_ble_eq_true rfl) ?_
                    exact W.lret hx hb hr (fun t ht hW => ⟨⟨_, (), rfl, (by rw [show x = 4 by omega]; rfl), by rw [ht]; exact hP9, va_K.moved hW.alike hK9, hD9⟩, hS.F ht⟩) hS.2.2 dX6_checksum_159
                  · refine lv_iconst (v := nI 0) hx hb dX6_checksum_101 zki_0 ?_
                    refine lv_istore (lv' := [(4, .int (nI 0)), (0, .ref mo), (1, .long (mxr (fun q => (hd.testBit q).toNat) (mxb bf (mx (mxr rf 17 8) (cn bf 256)) 256) (4 * x))), (3, .int (nI x))]) hx hb dX6_checksum_102 hl (by decide) rfl (fun ls hl => ?_)
                    have cut_104 : ∀ (nn9 : Nat) (y : Nat) (hy4 : y ≤ 4) (hn9 : 4 - y < nn9) (H : Heap) (locs : List Loc) (hP : va_P D vwCl [(mo, .inr (8, [.int (nI 0), .ref ra, .ref ca, .ref ha, .int (nI kp), .ref ba, .int (nI hd), .ref wa])), (ra, .inl (kr, 8, .inl (aN rf))), (ca, .inl (kc, 8, .inl (aN cf))), (ha, .inl (kh, 8, .inl (aN hf))), (ba, .inl (kb, 256, .inl (aB bf)))] H) (hD : va_D A [(mo, .inr (8, [.int (nI 0), .ref ra, .ref ca, .ref ha, .int (nI kp), .ref ba, .int (nI hd), .ref wa])), (ra, .inl (kr, 8, .inl (aN rf))), (ca, .inl (kc, 8, .inl (aN cf))), (ha, .inl (kh, 8, .inl (aN hf))), (ba, .inl (kb, 256, .inl (aB bf)))]) (hS : va_S A s.heap H locs) (ls : Array Slot) (hl : lv_has ls 7 [(0, .ref mo), (1, .long (mxr (fun q => (hd.testBit q).toNat) (mxb bf (mx (mxr rf 17 8) (cn bf 256)) 256) (4 * x + y))), (3, .int (nI x)), (4, .int (nI y))]), W p l e (headSpec wsX6_checksum rm_c_X6_checksum).room s m args below meth c H locs 0 0 (MQ below (q_c_X6_checksum D s.heap.size mo ra ca ha ba wa kp hd kr kc kh th rf cf hf kb bf) args s 0 0 A) (F0 m 104 ls []) := by
                      intro nn9
                      induction nn9 with
                      | zero => intro y hy4 hn9; exact absurd hn9 (Nat.not_lt_zero _)
                      | succ nn9 ih_104 =>
                        intro y hy4 hn9 H locs hP hD hS ls hl
                        refine lv_iload hx hb dX6_checksum_104 (lv_at hl 3 rfl) ?_
                        refine lv_iconst (v := nI 4) hx hb dX6_checksum_106 zki_4 ?_
                        refine z_cge (tgt := 142) hx hb (by omega) (by omega) dX6_checksum_107 (by decide) (fun c_107 => ?_) (fun c_107 => ?_)
                        · refine lv_iinc (v := (nI (x + 1))) (lv' := [(3, .int (nI (x + 1))), (0, .ref mo), (1, .long (mxr (fun q => (hd.testBit q).toNat) (mxb bf (mx (mxr rf 17 8) (cn bf 256)) 256) (4 * x + y))), (4, .int (nI y))]) hx hb dX6_checksum_142 hl (k := 2) rfl (z_inc x 1) (by decide) rfl (fun ls hl => ?_)
                          refine lv_goto (tgt := 96) hx hb dX6_checksum_145 (by decide) ?_
                          have hl : lv_has ls 7 [(3, .int (nI (x + 1))), (0, .ref mo), (1, .long (mxr (fun q => (hd.testBit q).toNat) (mxb bf (mx (mxr rf 17 8) (cn bf 256)) 256) (4 * (x + 1)))), (4, .int (nI y))] := Eq.mp (congrArg (fun z9 => lv_has ls 7 [(3, .int (nI (x + 1))), (0, .ref mo), (1, .long z9), (4, .int (nI y))]) ((show mxr (fun q => (hd.testBit q).toNat) (mxb bf (mx (mxr rf 17 8) (cn bf 256)) 256) (4 * x + y) = mxr (fun q => (hd.testBit q).toNat) (mxb bf (mx (mxr rf 17 8) (cn bf 256)) 256) (4 * (x + 1)) from by rw [show 4 * (x + 1) = 4 * x + y by omega]))) hl
                          exact ih_96 (x + 1) (by omega) (by omega) H locs hP hD hS ls (lv_sub hl [1, 2, 0] rfl)
                        · refine lv_ldc2 (v := 31) hx hb hown (hts (.constantLong RX6 122 (31)) (by decide +kernel)) dX6_checksum_110 ?_
                          refine lv_lload_n hx hb dX6_checksum_113 rfl (lv_at hl 1 rfl) ?_
                          refine lv_lmul hx hb dX6_checksum_114 ?_
                          refine lv_aload_n hx hb dX6_checksum_115 rfl (lv_at hl 0 rfl) ?_
                          refine va_get (D := D) (ci := 8) (v := .int (nI hd)) (C := RX6) (T := TX6) (N := 8) hx hb hts nX6_checksum_inX6 hown hK hP 0 rfl rfl 6 (by decide) (hts (.fieldLink RX6 111 "GamefieldModel" "board" "I") (by decide +kernel)) (fun _ h9 => h9) rfl dX6_checksum_116 ?_
                          refine lv_iload_n hx hb dX6_checksum_119 rfl (lv_at hl 2 rfl) ?_
                          refine lv_iload hx hb dX6_checksum_120 (lv_at hl 3 rfl) ?_
                          refine z_ci (va_runS (As := [.int (nI hd), .int (nI x), .int (nI y)]) (rest := [.long ((31 : Int64) * mxr (fun q => (hd.testBit q).toNat) (mxb bf (mx (mxr rf 17 8) (cn bf 256)) 256) (4 * x + y))]) ⟨hx, hb, hml, hown, hts⟩ (c_X6_isUp l D hd x y (by omega) (by omega) (by omega)) (va_cwS 3 hts gX6_checksum_X6_isUp rfl rfl rfl (by decide +kernel) ⟨Nat.le_of_ble_eq_true rfl, Nat.le_of_ble_eq_true rfl⟩) ⟨z_fb0, fun U hU hW => ⟨rfl, trivial⟩⟩ rfl rfl hl.1 rfl (lv_room (Nat.le_of_ble_eq_true rfl)) dX6_checksum_122 ⟨Nat.le_of_ble_eq_true rfl, Nat.le_of_ble_eq_true rfl⟩) (fun r122 e122 => ?_)
                          subst e122
                          refine z_beq (tgt := 132) hx hb dX6_checksum_125 (by decide) (fun c_125 => ?_) (fun c_125 => ?_)
                          · have e9 : 31 * mxr (fun q => (hd.testBit q).toNat) (mxb bf (mx (mxr rf 17 8) (cn bf 256)) 256) (4 * x + y) + lN 0 = mxr (fun q => (hd.testBit q).toNat) (mxb bf (mx (mxr rf 17 8) (cn bf 256)) 256) (4 * x + (y + 1)) := mxr_s _ _ _ _ (by show (hd.testBit (4 * x + y)).toNat = 0; rw [c_125]; rfl)
                            refine lv_iconst (v := nI 0) hx hb dX6_checksum_132 zki_0 ?_
                            refine lv_i2l (v := lN 0) hx hb dX6_checksum_133 (z_i2l (by omega)) ?_
                            refine lv_ladd hx hb dX6_checksum_134 ?_
                            refine lv_lstore_n (lv' := [(1, .long (((31 : Int64) * mxr (fun q => (hd.testBit q).toNat) (mxb bf (mx (mxr rf 17 8) (cn bf 256)) 256) (4 * x + y)) + (lN 0))), (0, .ref mo), (3, .int (nI x)), (4, .int (nI y))]) hx hb dX6_checksum_135 rfl hl (by decide) rfl (fun ls hl => ?_)
                            refine lv_iinc (v := (nI (y + 1))) (lv' := [(4, .int (nI (y + 1))), (1, .long (((31 : Int64) * mxr (fun q => (hd.testBit q).toNat) (mxb bf (mx (mxr rf 17 8) (cn bf 256)) 256) (4 * x + y)) + (lN 0))), (0, .ref mo), (3, .int (nI x))]) hx hb dX6_checksum_136 hl (k := 3) rfl (z_inc y 1) (by decide) rfl (fun ls hl => ?_)
                            refine lv_goto (tgt := 104) hx hb dX6_checksum_139 (by decide) ?_
                            have hl : lv_has ls 7 [(4, .int (nI (y + 1))), (1, .long (mxr (fun q => (hd.testBit q).toNat) (mxb bf (mx (mxr rf 17 8) (cn bf 256)) 256) (4 * x + (y + 1)))), (0, .ref mo), (3, .int (nI x))] := Eq.mp (congrArg (fun z9 => lv_has ls 7 [(4, .int (nI (y + 1))), (1, .long z9), (0, .ref mo), (3, .int (nI x))]) ((show (((31 : Int64) * mxr (fun q => (hd.testBit q).toNat) (mxb bf (mx (mxr rf 17 8) (cn bf 256)) 256) (4 * x + y)) + (lN 0)) = mxr (fun q => (hd.testBit q).toNat) (mxb bf (mx (mxr rf 17 8) (cn bf 256)) 256) (4 * x + (y + 1)) from e9))) hl
                            exact ih_104 (y + 1) (by omega) (by omega) H locs hP hD hS ls (lv_sub hl [2, 1, 3, 0] rfl)
                          · have e9 : 31 * mxr (fun q => (hd.testBit q).toNat) (mxb bf (mx (mxr rf 17 8) (cn bf 256)) 256) (4 * x + y) + lN 1 = mxr (fun q => (hd.testBit q).toNat) (mxb bf (mx (mxr rf 17 8) (cn bf 256)) 256) (4 * x + (y + 1)) := mxr_s _ _ _ _ (by show (hd.testBit (4 * x + y)).toNat = 1; rw [c_125]; rfl)
                            refine lv_iconst (v := nI 1) hx hb dX6_checksum_128 zki_1 ?_
                            refine lv_goto (tgt := 133) hx hb dX6_checksum_129 (by decide) ?_
                            refine lv_i2l (v := lN 1) hx hb dX6_checksum_133 (z_i2l (by omega)) ?_
                            refine lv_ladd hx hb dX6_checksum_134 ?_
                            refine lv_lstore_n (lv' := [(1, .long (((31 : Int64) * mxr (fun q => (hd.testBit q).toNat) (mxb bf (mx (mxr rf 17 8) (cn bf 256)) 256) (4 * x + y)) + (lN 1))), (0, .ref mo), (3, .int (nI x)), (4, .int (nI y))]) hx hb dX6_checksum_135 rfl hl (by decide) rfl (fun ls hl => ?_)
                            refine lv_iinc (v := (nI (y + 1))) (lv' := [(4, .int (nI (y + 1))), (1, .long (((31 : Int64) * mxr (fun q => (hd.testBit q).toNat) (mxb bf (mx (mxr rf 17 8) (cn bf 256)) 256) (4 * x + y)) + (lN 1))), (0, .ref mo), (3, .int (nI x))]) hx hb dX6_checksum_136 hl (k := 3) rfl (z_inc y 1) (by decide) rfl (fun ls hl => ?_)
                            refine lv_goto (tgt := 104) hx hb dX6_checksum_139 (by decide) ?_
                            have hl : lv_has ls 7 [(4, .int (nI (y + 1))), (1, .long (mxr (fun q => (hd.testBit q).toNat) (mxb bf (mx (mxr rf 17 8) (cn bf 256)) 256) (4 * x + (y + 1)))), (0, .ref mo), (3, .int (nI x))] := Eq.mp (congrArg (fun z9 => lv_has ls 7 [(4, .int (nI (y + 1))), (1, .long z9), (0, .ref mo), (3, .int (nI x))]) ((show (((31 : Int64) * mxr (fun q => (hd.testBit q).toNat) (mxb bf (mx (mxr rf 17 8) (cn bf 256)) 256) (4 * x + y)) + (lN 1)) = mxr (fun q => (hd.testBit q).toNat) (mxb bf (mx (mxr rf 17 8) (cn bf 256)) 256) (4 * x + (y + 1)) from e9))) hl
                            exact ih_104 (y + 1) (by omega) (by omega) H locs hP hD hS ls (lv_sub hl [2, 1, 3, 0] rfl)
                    have hl : lv_has ls 7 [(4, .int (nI 0)), (0, .ref mo), (1, .long (mxr (fun q => (hd.testBit q).toNat) (mxb bf (mx (mxr rf 17 8) (cn bf 256)) 256) (4 * x + 0))), (3, .int (nI x))] := Eq.mp (congrArg (fun z9 => lv_has ls 7 [(4, .int (nI 0)), (0, .ref mo), (1, .long z9), (3, .int (nI x))]) ((show mxr (fun q => (hd.testBit q).toNat) (mxb bf (mx (mxr rf 17 8) (cn bf 256)) 256) (4 * x) = mxr (fun q => (hd.testBit q).toNat) (mxb bf (mx (mxr rf 17 8) (cn bf 256)) 256) (4 * x + 0) from rfl))) hl
                    exact cut_104 ((4 - 0) + 1) 0 (by omega) (Nat.lt_succ_self _) H locs hP hD hS ls (lv_sub hl [1, 2, 3, 0] rfl)
              have hl : lv_has ls 7 [(3, .int (nI 0)), (0, .ref mo), (1, .long (mxr (fun q => (hd.testBit q).toNat) (mxb bf (mx (mxr rf 17 8) (cn bf 256)) 256) (4 * 0)))] := Eq.mp (congrArg (fun z9 => lv_has ls 7 [(3, .int (nI 0)), (0, .ref mo), (1, .long z9)]) ((show mxb bf (mx (mxr rf 17 8) (cn bf 256)) i = mxr (fun q => (hd.testBit q).toNat) (mxb bf (mx (mxr rf 17 8) (cn bf 256)) 256) (4 * 0) from by rw [show i = 256 by omega]; rfl))) hl
              exact cut_96 ((4 - 0) + 1) 0 (by omega) (Nat.lt_succ_self _) H locs hP hD hS ls (lv_sub hl [1, 2, 0] rfl)
            · refine lv_aload_n hx hb dX6_checksum_66 rfl (lv_at hl 0 rfl) ?_
              refine va_get (D := D) (ci := 8) (v := .ref ba) (C := RX6) (T := TX6) (N := 8) hx hb hts nX6_checksum_inX6 hown hK hP 0 rfl rfl 5 (by decide) (hts (.fieldLink RX6 19 "GamefieldModel" "basket" "[Z") (by decide +kernel)) (fun _ h9 => h9) rfl dX6_checksum_67 ?_
              refine lv_iload_n hx hb dX6_checksum_70 rfl (lv_at hl 2 rfl) ?_
              refine z_zald hx hb hK hP 4 3 rfl rfl (by omega) (by decide) dX6_checksum_71 ?_
              refine z_beq (tgt := 86) hx hb dX6_checksum_72 (by decide) (fun c_72 => ?_) (fun c_72 => ?_)
              · have e9 : mxb bf (mx (mxr rf 17 8) (cn bf 256)) i = mxb bf (mx (mxr rf 17 8) (cn bf 256)) (i + 1) := by rw [mxb, if_neg (by rw [c_72]; decide)]
                refine lv_lload_n hx hb dX6_checksum_86 rfl (lv_at hl 1 rfl) ?_
                refine lv_lstore_n (lv' := [(1, .long (mxb bf (mx (mxr rf 17 8) (cn bf 256)) i)), (0, .ref mo), (3, .int (nI i))]) hx hb dX6_checksum_87 rfl hl (by decide) rfl (fun ls hl => ?_)
                refine lv_iinc (v := (nI (i + 1))) (lv' := [(3, .int (nI (i + 1))), (1, .long (mxb bf (mx (mxr rf 17 8) (cn bf 256)) i)), (0, .ref mo)]) hx hb dX6_checksum_88 hl (k := 2) rfl (z_inc i 1) (by decide) rfl (fun ls hl => ?_)
                refine lv_goto (tgt := 59) hx hb dX6_checksum_91 (by decide) ?_
                have hl : lv_has ls 7 [(3, .int (nI (i + 1))), (1, .long (mxb bf (mx (mxr rf 17 8) (cn bf 256)) (i + 1))), (0, .ref mo)] := Eq.mp (congrArg (fun z9 => lv_has ls 7 [(3, .int (nI (i + 1))), (1, .long z9), (0, .ref mo)]) ((show mxb bf (mx (mxr rf 17 8) (cn bf 256)) i = mxb bf (mx (mxr rf 17 8) (cn bf 256)) (i + 1) from e9))) hl
                exact ih_59 (i + 1) (by omega) (by omega) H locs hP hD hS ls (lv_sub hl [2, 1, 0] rfl)
              · have e9 : 31 * mxb bf (mx (mxr rf 17 8) (cn bf 256)) i + lN i = mxb bf (mx (mxr rf 17 8) (cn bf 256)) (i + 1) := by rw [mxb, if_pos c_72]; rfl
                refine lv_ldc2 (v := 31) hx hb hown (hts (.constantLong RX6 122 (31)) (by decide +kernel)) dX6_checksum_75 ?_
                refine lv_lload_n hx hb dX6_checksum_78 rfl (lv_at hl 1 rfl) ?_
                refine lv_lmul hx hb dX6_checksum_79 ?_
                refine lv_iload_n hx hb dX6_checksum_80 rfl (lv_at hl 2 rfl) ?_
                refine lv_i2l (v := lN i) hx hb dX6_checksum_81 (z_i2l (by omega)) ?_
                refine lv_ladd hx hb dX6_checksum_82 ?_
                refine lv_goto (tgt := 87) hx hb dX6_checksum_83 (by decide) ?_
                refine lv_lstore_n (lv' := [(1, .long (((31 : Int64) * mxb bf (mx (mxr rf 17 8) (cn bf 256)) i) + (lN i))), (0, .ref mo), (3, .int (nI i))]) hx hb dX6_checksum_87 rfl hl (by decide) rfl (fun ls hl => ?_)
                refine lv_iinc (v := (nI (i + 1))) (lv' := [(3, .int (nI (i + 1))), (1, .long (((31 : Int64) * mxb bf (mx (mxr rf 17 8) (cn bf 256)) i) + (lN i))), (0, .ref mo)]) hx hb dX6_checksum_88 hl (k := 2) rfl (z_inc i 1) (by decide) rfl (fun ls hl => ?_)
                refine lv_goto (tgt := 59) hx hb dX6_checksum_91 (by decide) ?_
                have hl : lv_has ls 7 [(3, .int (nI (i + 1))), (1, .long (mxb bf (mx (mxr rf 17 8) (cn bf 256)) (i + 1))), (0, .ref mo)] := Eq.mp (congrArg (fun z9 => lv_has ls 7 [(3, .int (nI (i + 1))), (1, .long z9), (0, .ref mo)]) ((show (((31 : Int64) * mxb bf (mx (mxr rf 17 8) (cn bf 256)) i) + (lN i)) = mxb bf (mx (mxr rf 17 8) (cn bf 256)) (i + 1) from e9))) hl
                exact ih_59 (i + 1) (by omega) (by omega) H locs hP hD hS ls (lv_sub hl [2, 1, 0] rfl)
        have hl : lv_has ls 7 [(3, .int (nI 0)), (1, .long (mxb bf (mx (mxr rf 17 8) (cn bf 256)) 0)), (0, .ref mo), (4, .int (nI 8)), (5, .int (nI i))] := Eq.mp (congrArg (fun z9 => lv_has ls 7 [(3, .int (nI 0)), (1, .long z9), (0, .ref mo), (4, .int (nI 8)), (5, .int (nI i))]) ((show (((31 : Int64) * mxr rf 17 i) + (lN (cn bf 256))) = mxb bf (mx (mxr rf 17 8) (cn bf 256)) 0 from by rw [show i = 8 by omega]; rfl))) hl
        exact cut_59 ((256 - 0) + 1) 0 (by omega) (Nat.lt_succ_self _) H locs (hP.sub [3, 0, 1, 2, 4] rfl) (hD.sub [3, 0, 1, 2, 4] (by decide) rfl) hS ls (lv_sub hl [2, 1, 0] rfl)
      · refine lv_aload_n hx hb dX6_checksum_23 rfl (lv_at hl 2 rfl) ?_
        refine lv_iload hx hb dX6_checksum_24 (lv_at hl 4 rfl) ?_
        refine z_iald hx hb hK hP 1 0 rfl rfl (by omega) (by decide) dX6_checksum_26 ?_
        refine lv_istore (lv' := [(6, .int (nI (rf i))), (0, .ref mo), (1, .long (mxr rf 17 i)), (3, .ref ra), (4, .int (nI 8)), (5, .int (nI i))]) hx hb dX6_checksum_27 hl (by decide) rfl (fun ls hl => ?_)
        have hri : rf i < 256 := hrf i (by omega)
        refine lv_ldc2 (v := 31) hx hb hown (hts (.constantLong RX6 122 (31)) (by decide +kernel)) dX6_checksum_29 ?_
        refine lv_lload_n hx hb dX6_checksum_32 rfl (lv_at hl 2 rfl) ?_
        refine lv_lmul hx hb dX6_checksum_33 ?_
        refine lv_iload hx hb dX6_checksum_34 (lv_at hl 0 rfl) ?_
        refine lv_i2l (v := lN (rf i)) hx hb dX6_checksum_36 (z_i2l (by omega)) ?_
        refine lv_ladd hx hb dX6_checksum_37 ?_
        refine lv_lstore_n (lv' := [(1, .long (((31 : Int64) * mxr rf 17 i) + (lN (rf i)))), (6, .int (nI (rf i))), (0, .ref mo), (3, .ref ra), (4, .int (nI 8)), (5, .int (nI i))]) hx hb dX6_checksum_38 rfl hl (by decide) rfl (fun ls hl => ?_)
        refine lv_iinc (v := (nI (i + 1))) (lv' := [(5, .int (nI (i + 1))), (1, .long (((31 : Int64) * mxr rf 17 i) + (lN (rf i)))), (6, .int (nI (rf i))), (0, .ref mo), (3, .ref ra), (4, .int (nI 8))]) hx hb dX6_checksum_39 hl (k := 5) rfl (z_inc i 1) (by decide) rfl (fun ls hl => ?_)
        refine lv_goto (tgt := 16) hx hb dX6_checksum_42 (by decide) ?_
        have hl : lv_has ls 7 [(5, .int (nI (i + 1))), (1, .long (mxr rf 17 (i + 1))), (6, .int (nI (rf i))), (0, .ref mo), (3, .ref ra), (4, .int (nI 8))] := Eq.mp (congrArg (fun z9 => lv_has ls 7 [(5, .int (nI (i + 1))), (1, .long z9), (6, .int (nI (rf i))), (0, .ref mo), (3, .ref ra), (4, .int (nI 8))]) ((show (((31 : Int64) * mxr rf 17 i) + (lN (rf i))) = mxr rf 17 (i + 1) from rfl))) hl
        exact ih_16 (i + 1) (by omega) (by omega) H locs hP hD hS ls (lv_sub hl [3, 1, 4, 5, 0] rfl)
  have hl : lv_has ls 7 [(5, .int (nI 0)), (4, .int (nI 8)), (3, .ref ra), (1, .long (mxr rf 17 0)), (0, .ref mo)] := Eq.mp (congrArg (fun z9 => lv_has ls 7 [(5, .int (nI 0)), (4, .int (nI 8)), (3, .ref ra), (1, .long z9), (0, .ref mo)]) ((show (17 : Int64) = mxr rf 17 0 from rfl))) hl
  exact cut_16 ((8 - 0) + 1) 0 (by omega) (Nat.lt_succ_self _) _ _ hP hD hS ls (lv_sub hl [4, 3, 2, 1, 0] rfl)
abbrev rm_c_X6_isSound_ok : Room := { frames := 5, cells := 2, slots := 273, locals := 139 }
abbrev q_c_X6_isSound_ok (D : va_G) (sz : Nat) (mo : Nat) (ra : Nat) (ca : Nat) (ha : Nat) (ba : Nat) (wa : Nat) (kp : Nat) (hd : Nat) (kr : ClassId) (kc : ClassId) (kh : ClassId) (th : Nat) (rf : Nat → Nat) (cf : Nat → Nat) (hf : Nat → Nat) (j : Nat) (k : Nat) : Array Value → State → Outcome → State → Prop := va_Qi (fun r (_ : Unit) => r = (bI (dB (sdp (rf j) (rf k))))) (fun (_ : Unit) t => va_P D vwCl [(mo, .inr (8, [.int (nI 0), .ref ra, .ref ca, .ref ha, .int (nI kp), .ref ba, .int (nI hd), .ref wa])), (ra, .inl (kr, 8, .inl (aN rf))), (ca, .inl (kc, 8, .inl (aN cf))), (ha, .inl (kh, 8, .inl (aN hf)))] t.heap ∧ va_K D vwCl [(kr, .int), (kc, .int), (kh, .int)] t ∧ va_D (va_A [(mo, .inr (8, [.int (nI th), .ref ra, .ref ca, .ref ha, .int (nI kp), .ref ba, .int (nI hd), .ref wa])), (ra, .inl (kr, 8, .inl (aN rf))), (ca, .inl (kc, 8, .inl (aN cf))), (ha, .inl (kh, 8, .inl (aN hf)))] sz) [(mo, .inr (8, [.int (nI 0), .ref ra, .ref ca, .ref ha, .int (nI kp), .ref ba, .int (nI hd), .ref wa])), (ra, .inl (kr, 8, .inl (aN rf))), (ca, .inl (kc, 8, .inl (aN cf))), (ha, .inl (kh, 8, .inl (aN hf)))]) (va_A [(mo, .inr (8, [.int (nI th), .ref ra, .ref ca, .ref ha, .int (nI kp), .ref ba, .int (nI hd), .ref wa])), (ra, .inl (kr, 8, .inl (aN rf))), (ca, .inl (kc, 8, .inl (aN cf))), (ha, .inl (kh, 8, .inl (aN hf)))] sz)
set_option maxHeartbeats 4000000 in
set_option maxRecDepth 100000 in
theorem c_X6_isSound_ok (l : Launch) (D : va_G) (sz : Nat) (mo : Nat) (ra : Nat) (ca : Nat) (ha : Nat) (ba : Nat) (wa : Nat) (kp : Nat) (hd : Nat) (kr : ClassId) (kc : ClassId) (kh : ClassId) (th : Nat) (rf : Nat → Nat) (cf : Nat → Nat) (hf : Nat → Nat) (j : Nat) (k : Nat) (hrf : ∀ k, k < 8 → rf k < 256) (hkp : kp ≤ 8) (hj : j < 8) (hk : k < 8) : Met l yX6_isSound wsX6_isSound rm_c_X6_isSound_ok (va_Pc [.ref mo, .int (nI j), .int (nI k)] (fun U => U.heap.size = sz ∧ va_P D vwCl [(mo, .inr (8, [.int (nI th), .ref ra, .ref ca, .ref ha, .int (nI kp), .ref ba, .int (nI hd), .ref wa])), (ra, .inl (kr, 8, .inl (aN rf))), (ca, .inl (kc, 8, .inl (aN cf))), (ha, .inl (kh, 8, .inl (aN hf)))] U.heap ∧ va_K D vwCl [(kr, .int), (kc, .int), (kh, .int)] U ∧ va_D (fun _ => True) [(mo, .inr (8, [.int (nI th), .ref ra, .ref ca, .ref ha, .int (nI kp), .ref ba, .int (nI hd), .ref wa])), (ra, .inl (kr, 8, .inl (aN rf))), (ca, .inl (kc, 8, .inl (aN cf))), (ha, .inl (kh, 8, .inl (aN hf)))])) (q_c_X6_isSound_ok D sz mo ra ca ha ba wa kp hd kr kc kh th rf cf hf j k) 2 273 (va_A [(mo, .inr (8, [.int (nI th), .ref ra, .ref ca, .ref ha, .int (nI kp), .ref ba, .int (nI hd), .ref wa])), (ra, .inl (kr, 8, .inl (aN rf))), (ca, .inl (kc, 8, .inl (aN cf))), (ha, .inl (kh, 8, .inl (aN hf)))] sz) := by
  refine Met.ofW (cc := cX6_isSound) (maxL := 8) (ret := (some .boolean)) (by decide) rfl ?_
  intro p e s m args below meth c s₁ B hml hv
  obtain ⟨hargs, hsz, hP, hK, hD0⟩ := hv
  have hx := B.exec
  have hb := B.bytes
  have hr := B.returns
  have hts := atoms_spec (ws := wsX6_isSound) B.pre
  have hown : s.vm.findClass RX6 = some m.cls := findClass_of_methodNamed B.named
  have hlocks := B.notSynchronized
  subst hsz
  have hD := hD0.self (sz := s.heap.size)
  generalize hAe : va_A [(mo, .inr (8, [.int (nI th), .ref ra, .ref ca, .ref ha, .int (nI kp), .ref ba, .int (nI hd), .ref wa])), (ra, .inl (kr, 8, .inl (aN rf))), (ca, .inl (kc, 8, .inl (aN cf))), (ha, .inl (kh, 8, .inl (aN hf)))] s.heap.size = A at hD ⊢
  have hA : ∀ q : Nat, s.heap.size ≤ q → A q := fun q h => by rw [← hAe]; exact Or.inr h
  have hS : va_S A s.heap s.heap [] := va_S.rf
  have hl := lv_entry ([.ref mo, .int (nI j), .int (nI k)]) (n := 8) (Nat.le_of_ble_eq_true rfl)
  refine W.eq (g2 := F0 m 0 (lg_sl ([.ref mo, .int (nI j), .int (nI k)]) ++ List.replicate (8 - (lg_sl ([.ref mo, .int (nI j), .int (nI k)])).length) Slot.unset).toArray []) (by rw [hargs]; exact lg_entry_eq _ _ _) ?_
  generalize (lg_sl ([.ref mo, .int (nI j), .int (nI k)]) ++ List.replicate (8 - (lg_sl ([.ref mo, .int (nI j), .int (nI k)])).length) Slot.unset).toArray = ls at hl ⊢
  have hl : lv_has ls 8 [(0, .ref mo), (1, .int (nI j)), (2, .int (nI k))] := hl
  refine lv_aload_n hx hb dX6_isSound_0 rfl (lv_at hl 0 rfl) ?_
  refine lv_iload_n hx hb dX6_isSound_1 rfl (lv_at hl 1 rfl) ?_
  refine lv_iload_n hx hb dX6_isSound_2 rfl (lv_at hl 2 rfl) ?_
  refine lv_iconst (v := nI 0) hx hb dX6_isSound_3 zki_0 ?_
  have hPc := hP.sub (ws' := [(mo, .inr (8, [.int (nI th), .ref ra, .ref ca, .ref ha, .int (nI kp), .ref ba, .int (nI hd), .ref wa]))]) [0] rfl
  have hDc := hD.sub (ws' := [(mo, .inr (8, [.int (nI th), .ref ra, .ref ca, .ref ha, .int (nI kp), .ref ba, .int (nI hd), .ref wa]))]) [0] (by decide) rfl
  have hKc := hK.sub (tys' := []) [] rfl
  have hFc := va_free (wc := [(mo, .inr (8, [.int (nI th), .ref ra, .ref ca, .ref ha, .int (nI kp), .ref ba, .int (nI hd), .ref wa]))]) hD hS hA [0] rfl
  refine va_calli (va_runV (As := [.int (nI j), .int (nI k), .int (nI 0)]) (rest := []) ⟨hx, hb, hml, hown, hts⟩ (c_X6_areNone_ok l D s.heap.size mo ra ca ha ba wa kp hd th j k 0 (by omega) (by omega) (by omega)) (cwV 3 hts gX6_isSound_X6_areNone rfl rfl rfl (by decide +kernel) ⟨Nat.le_of_ble_eq_true rfl, Nat.le_of_ble_eq_true rfl⟩) ⟨(z_fb2), va_recv hK hP (ci := 8) (q0 := 0) rfl rfl, fun U hU hW => ⟨rfl, by rw [hU], by rw [hU]; exact hPc, va_K.moved hW.alike hKc, hDc.weaken (fun _ _ _ _ => trivial)⟩⟩ rfl rfl hl.1 rfl (lv_room (Nat.le_of_ble_eq_true rfl)) dX6_isSound_4 ⟨Nat.le_of_ble_eq_true rfl, Nat.le_of_ble_eq_true rfl⟩) hS (fun q _ h => hFc q h) hFc (fun r4 u4 t H locs ht hvm e4 hB hz1 hk1 hS => ?_)
  obtain ⟨hP1, hK1, hD1⟩ := hB
  rw [ht] at hP1
  obtain ⟨hP, hD⟩ := va_join (wr := [(ra, .inl (kr, 8, .inl (aN rf))), (ca, .inl (kc, 8, .inl (aN cf))), (ha, .inl (kh, 8, .inl (aN hf)))]) (w1 := [(mo, .inr (8, [.int (nI 0), .ref ra, .ref ca, .ref ha, .int (nI kp), .ref ba, .int (nI hd), .ref wa]))]) hP hD [0] [1, 2, 3] rfl rfl (by decide) (by decide) hk1 hFc hP1 hD1
  have hP : va_P D vwCl [(ra, .inl (kr, 8, .inl (aN rf))), (ca, .inl (kc, 8, .inl (aN cf))), (ha, .inl (kh, 8, .inl (aN hf))), (mo, .inr (8, [.int (nI 0), .ref ra, .ref ca, .ref ha, .int (nI kp), .ref ba, .int (nI hd), .ref wa]))] H := hP
  have hD : va_D A [(ra, .inl (kr, 8, .inl (aN rf))), (ca, .inl (kc, 8, .inl (aN cf))), (ha, .inl (kh, 8, .inl (aN hf))), (mo, .inr (8, [.int (nI 0), .ref ra, .ref ca, .ref ha, .int (nI kp), .ref ba, .int (nI hd), .ref wa]))] := hD
  refine W.widen (k := 0) (n := 0) (Nat.le_of_ble_eq_true rfl) (Nat.le_of_ble_eq_true rfl) ?_
  subst e4
  refine z_beq (tgt := 12) hx hb dX6_isSound_7 (by decide) (fun c_7 => ?_) (fun c_7 => absurd c_7 (by decide))
  refine lv_aload_n hx hb dX6_isSound_12 rfl (lv_at hl 0 rfl) ?_
  refine va_get (D := D) (ci := 8) (v := .ref ra) (C := RX6) (T := TX6) (N := 8) hx hb hts nX6_isSound_inX6 hown hK hP 3 rfl rfl 1 (by decide) (hts (.fieldLink RX6 9 "GamefieldModel" "registers" "[I") (by decide +kernel)) (fun _ h9 => h9) rfl dX6_isSound_13 ?_
  refine lv_iload_n hx hb dX6_isSound_16 rfl (lv_at hl 1 rfl) ?_
  refine z_iald hx hb hK hP 0 0 rfl rfl (by omega) (by decide) dX6_isSound_17 ?_
  have hrj : rf j < 256 := hrf j (by omega)
  have hrk : rf k < 256 := hrf k (by omega)
  refine lv_istore_n (lv' := [(3, .int (nI (rf j))), (0, .ref mo), (1, .int (nI j)), (2, .int (nI k))]) hx hb dX6_isSound_18 rfl hl (by decide) rfl (fun ls hl => ?_)
  refine lv_aload_n hx hb dX6_isSound_19 rfl (lv_at hl 1 rfl) ?_
  refine va_get (D := D) (ci := 8) (v := .ref ra) (C := RX6) (T := TX6) (N := 8) hx hb hts nX6_isSound_inX6 hown hK hP 3 rfl rfl 1 (by decide) (hts (.fieldLink RX6 9 "GamefieldModel" "registers" "[I") (by decide +kernel)) (fun _ h9 => h9) rfl dX6_isSound_20 ?_
  refine lv_iload_n hx hb dX6_isSound_23 rfl (lv_at hl 3 rfl) ?_
  refine z_iald hx hb hK hP 0 0 rfl rfl (by omega) (by decide) dX6_isSound_24 ?_
  refine lv_istore (lv' := [(4, .int (nI (rf k))), (3, .int (nI (rf j))), (0, .ref mo), (1, .int (nI j)), (2, .int (nI k))]) hx hb dX6_isSound_25 hl (by decide) rfl (fun ls hl => ?_)
  refine lv_iload_n hx hb dX6_isSound_27 rfl (lv_at hl 1 rfl) ?_
  refine lv_iload hx hb dX6_isSound_28 (lv_at hl 0 rfl) ?_
  refine z_ci (va_runS (As := [.int (nI (rf j)), .int (nI (rf k))]) (rest := []) ⟨hx, hb, hml, hown, hts⟩ (c_X6_sumOf l D (rf j) (rf k) (by omega) (by omega)) (va_cwS 2 hts gX6_isSound_X6_sumOf rfl rfl rfl (by decide +kernel) ⟨Nat.le_of_ble_eq_true rfl, Nat.le_of_ble_eq_true rfl⟩) ⟨z_fb0, fun U hU hW => ⟨rfl, trivial⟩⟩ rfl rfl hl.1 rfl (lv_room (Nat.le_of_ble_eq_true rfl)) dX6_isSound_30 ⟨Nat.le_of_ble_eq_true rfl, Nat.le_of_ble_eq_true rfl⟩) (fun r30 e30 => ?_)
  subst e30
  have hx30 : (rf j) ^^^ (rf k) < 256 := zx8 (by omega) (by omega)
  refine lv_istore (lv' := [(5, .int (nI ((rf j) ^^^ (rf k)))), (4, .int (nI (rf k))), (3, .int (nI (rf j))), (0, .ref mo), (1, .int (nI j)), (2, .int (nI k))]) hx hb dX6_isSound_33 hl (by decide) rfl (fun ls hl => ?_)
  refine lv_iload_n hx hb dX6_isSound_35 rfl (lv_at hl 2 rfl) ?_
  refine z_ci (va_runS (As := [.int (nI (rf j))]) (rest := []) ⟨hx, hb, hml, hown, hts⟩ (c_X6_rootOf l D (rf j) (by omega)) (va_cwS 1 hts gX6_isSound_X6_rootOf rfl rfl rfl (by decide +kernel) ⟨Nat.le_of_ble_eq_true rfl, Nat.le_of_ble_eq_true rfl⟩) ⟨z_fb0, fun U hU hW => ⟨rfl, trivial⟩⟩ rfl rfl hl.1 rfl (lv_room (Nat.le_of_ble_eq_true rfl)) dX6_isSound_36 ⟨Nat.le_of_ble_eq_true rfl, Nat.le_of_ble_eq_true rfl⟩) (fun r36 e36 => ?_)
  subst e36
  have hn36 : rt (rf j) < 256 := rt_lt (by omega)
  refine lv_istore (lv' := [(6, .int (nI (rt (rf j)))), (5, .int (nI ((rf j) ^^^ (rf k)))), (4, .int (nI (rf k))), (3, .int (nI (rf j))), (0, .ref mo), (1, .int (nI j)), (2, .int (nI k))]) hx hb dX6_isSound_39 hl (by decide) rfl (fun ls hl => ?_)
  refine lv_iload_n hx hb dX6_isSound_41 rfl (lv_at hl 3 rfl) ?_
  refine lv_iload hx hb dX6_isSound_42 (lv_at hl 2 rfl) ?_
  have hPc := hP.sub (ws' := []) [] rfl
  have hDc := hD.sub (ws' := []) [] (by decide) rfl
  have hKc := hK.sub (tys' := []) [] rfl
  have hFc := va_free (wc := []) hD hS hA [] rfl
  refine va_calli (va_runS (As := [.int (nI (rf j)), .int (nI (rf k))]) (rest := []) ⟨hx, hb, hml, hown, hts⟩ (c_X6_triedSumOf l D H.size (rf j) (rf k) (by omega) (by omega)) (va_cwS 2 hts gX6_isSound_X6_triedSumOf rfl rfl rfl (by decide +kernel) ⟨Nat.le_of_ble_eq_true rfl, Nat.le_of_ble_eq_true rfl⟩) ⟨(z_fb2), fun U hU hW => ⟨rfl, by rw [hU], by rw [hU]; exact hPc, va_K.moved hW.alike hKc, hDc.weaken (fun _ _ _ _ => trivial)⟩⟩ rfl rfl hl.1 rfl (lv_room (Nat.le_of_ble_eq_true rfl)) dX6_isSound_44 ⟨Nat.le_of_ble_eq_true rfl, Nat.le_of_ble_eq_true rfl⟩) hS (fun q _ h => hFc q h) hFc (fun r44 u44 t H locs ht hvm e44 hB hz1 hk1 hS => ?_)
  obtain ⟨hP1, hK1, hD1⟩ := hB
  rw [ht] at hP1
  obtain ⟨hP, hD⟩ := va_join (wr := [(ra, .inl (kr, 8, .inl (aN rf))), (ca, .inl (kc, 8, .inl (aN cf))), (ha, .inl (kh, 8, .inl (aN hf))), (mo, .inr (8, [.int (nI 0), .ref ra, .ref ca, .ref ha, .int (nI kp), .ref ba, .int (nI hd), .ref wa]))]) (w1 := []) hP hD [] [0, 1, 2, 3] rfl rfl (by decide) (by decide) hk1 hFc hP1 hD1
  have hP : va_P D vwCl [(ra, .inl (kr, 8, .inl (aN rf))), (ca, .inl (kc, 8, .inl (aN cf))), (ha, .inl (kh, 8, .inl (aN hf))), (mo, .inr (8, [.int (nI 0), .ref ra, .ref ca, .ref ha, .int (nI kp), .ref ba, .int (nI hd), .ref wa]))] H := hP
  have hD : va_D A [(ra, .inl (kr, 8, .inl (aN rf))), (ca, .inl (kc, 8, .inl (aN cf))), (ha, .inl (kh, 8, .inl (aN hf))), (mo, .inr (8, [.int (nI 0), .ref ra, .ref ca, .ref ha, .int (nI kp), .ref ba, .int (nI hd), .ref wa]))] := hD
  refine W.widen (k := 1) (n := 256) (Nat.le_of_ble_eq_true rfl) (Nat.le_of_ble_eq_true rfl) ?_
  subst e44
  have hn44 : ts (rf j) (rf k) < 257 := Nat.lt_succ_of_le (lo_le _ _)
  refine lv_iload hx hb dX6_isSound_47 (lv_at hl 1 rfl) ?_
  refine z_cne (tgt := 98) hx hb (by omega) (by omega) dX6_isSound_49 (by decide) (fun c_49 => ?_) (fun c_49 => ?_)
  · refine lv_iconst (v := nI 0) hx hb dX6_isSound_98 zki_0 ?_
    refine lv_istore (lv' := [(7, .int (nI 0)), (6, .int (nI (rt (rf j)))), (5, .int (nI ((rf j) ^^^ (rf k)))), (4, .int (nI (rf k))), (3, .int (nI (rf j))), (0, .ref mo), (1, .int (nI j)), (2, .int (nI k))]) hx hb dX6_isSound_99 hl (by decide) rfl (fun ls hl => ?_)
    refine lv_iload hx hb dX6_isSound_101 (lv_at hl 0 rfl) ?_
    refine z_feq (tgt := 169) hx hb (by omega) dX6_isSound_103 (by decide) (fun c_103 => ?_) (fun c_103 => absurd c_103 (by decide))
    refine lv_iconst (v := nI 0) hx hb dX6_isSound_169 zki_0 ?_
    refine lv_istore (lv' := [(7, .int (nI 0)), (6, .int (nI (rt (rf j)))), (5, .int (nI ((rf j) ^^^ (rf k)))), (4, .int (nI (rf k))), (3, .int (nI (rf j))), (0, .ref mo), (1, .int (nI j)), (2, .int (nI k))]) hx hb dX6_isSound_170 hl (by decide) rfl (fun ls hl => ?_)
    refine lv_iload hx hb dX6_isSound_172 (lv_at hl 0 rfl) ?_
    refine z_feq (tgt := 221) hx hb (by omega) dX6_isSound_174 (by decide) (fun c_174 => ?_) (fun c_174 => absurd c_174 (by decide))
    refine lv_iconst (v := nI 0) hx hb dX6_isSound_221 zki_0 ?_
    have hP9 := hP.sub (ws' := [(mo, .inr (8, [.int (nI 0), .ref ra, .ref ca, .ref ha, .int (nI kp), .ref ba, .int (nI hd), .ref wa])), (ra, .inl (kr, 8, .inl (aN rf))), (ca, .inl (kc, 8, .inl (aN cf))), (ha, .inl (kh, 8, .inl (aN hf)))]) [3, 0, 1, 2] rfl
    have hD9 := hD.sub (ws' := [(mo, .inr (8, [.int (nI 0), .ref ra, .ref ca, .ref ha, .int (nI kp), .ref ba, .int (nI hd), .ref wa])), (ra, .inl (kr, 8, .inl (aN rf))), (ca, .inl (kc, 8, .inl (aN cf))), (ha, .inl (kh, 8, .inl (aN hf)))]) [3, 0, 1, 2] (by decide) rfl
    have hK9 := hK.sub (tys' := [(kr, .int), (kc, .int), (kh, .int)]) [0, 1, 2] rfl
    subst hAe
    refine W.widen (k := 2) (n := 273) (Nat.le_of_ble_eq_true rfl) (Nat.le_of_ble_eq_true rfl) ?_
    refine zt (show nI 0 = bI false from rfl) ?_
    exact W.zret (ty := .boolean) hx hb hr (z_narB _) (fun t ht hW => ⟨⟨_, (), rfl, (congrArg bI (dB_f (fun q => by first | exact c_49 q.1.1 | exact c_76 q.1.2 | exact c_91 q.2.1.1 | exact c_126 q.2.1.2 | exact c_151 q.2.2.1.1 | exact c_162 q.2.2.1.2 | exact q.2.2.2.1.elim (fun z => by omega) c_194 | exact c_214 q.2.2.2.2)).symm), by rw [ht]; exact hP9, va_K.moved hW.alike hK9, hD9⟩, hS.F ht⟩) hS.2.2 dX6_isSound_222
  · refine lv_iload_n hx hb dX6_isSound_52 rfl (lv_at hl 3 rfl) ?_
    refine lv_bipush (v := nI 16) hx hb dX6_isSound_53 zkb_16 ?_
    refine z_rem hx hb (by omega) (by omega) (by omega) dX6_isSound_55 ?_
    refine lv_iload hx hb dX6_isSound_56 (lv_at hl 2 rfl) ?_
    refine lv_bipush (v := nI 16) hx hb dX6_isSound_58 zkb_16 ?_
    refine z_rem hx hb (by omega) (by omega) (by omega) dX6_isSound_60 ?_
    have hPc := hP.sub (ws' := []) [] rfl
    have hDc := hD.sub (ws' := []) [] (by decide) rfl
    have hKc := hK.sub (tys' := []) [] rfl
    have hFc := va_free (wc := []) hD hS hA [] rfl
    refine va_calli (va_runS (As := [.int (nI ((rf j) % 16)), .int (nI ((rf k) % 16))]) (rest := []) ⟨hx, hb, hml, hown, hts⟩ (c_X6_triedProductOf l D H.size ((rf j) % 16) ((rf k) % 16) (by omega) (by omega)) (va_cwS 2 hts gX6_isSound_X6_triedProductOf rfl rfl rfl (by decide +kernel) ⟨Nat.le_of_ble_eq_true rfl, Nat.le_of_ble_eq_true rfl⟩) ⟨(z_fb2), fun U hU hW => ⟨rfl, by rw [hU], by rw [hU]; exact hPc, va_K.moved hW.alike hKc, hDc.weaken (fun _ _ _ _ => trivial)⟩⟩ rfl rfl hl.1 rfl (lv_room (Nat.le_of_ble_eq_true rfl)) dX6_isSound_61 ⟨Nat.le_of_ble_eq_true rfl, Nat.le_of_ble_eq_true rfl⟩) hS (fun q _ h => hFc q h) hFc (fun r61 u61 t H locs ht hvm e61 hB hz1 hk1 hS => ?_)
    obtain ⟨hP1, hK1, hD1⟩ := hB
    rw [ht] at hP1
    obtain ⟨hP, hD⟩ := va_join (wr := [(ra, .inl (kr, 8, .inl (aN rf))), (ca, .inl (kc, 8, .inl (aN cf))), (ha, .inl (kh, 8, .inl (aN hf))), (mo, .inr (8, [.int (nI 0), .ref ra, .ref ca, .ref ha, .int (nI kp), .ref ba, .int (nI hd), .ref wa]))]) (w1 := []) hP hD [] [0, 1, 2, 3] rfl rfl (by decide) (by decide) hk1 hFc hP1 hD1
    have hP : va_P D vwCl [(ra, .inl (kr, 8, .inl (aN rf))), (ca, .inl (kc, 8, .inl (aN cf))), (ha, .inl (kh, 8, .inl (aN hf))), (mo, .inr (8, [.int (nI 0), .ref ra, .ref ca, .ref ha, .int (nI kp), .ref ba, .int (nI hd), .ref wa]))] H := hP
    have hD : va_D A [(ra, .inl (kr, 8, .inl (aN rf))), (ca, .inl (kc, 8, .inl (aN cf))), (ha, .inl (kh, 8, .inl (aN hf))), (mo, .inr (8, [.int (nI 0), .ref ra, .ref ca, .ref ha, .int (nI kp), .ref ba, .int (nI hd), .ref wa]))] := hD
    refine W.widen (k := 2) (n := 273) (Nat.le_of_ble_eq_true rfl) (Nat.le_of_ble_eq_true rfl) ?_
    subst e61
    have hn61 : tp ((rf j) % 16) ((rf k) % 16) < 257 := Nat.lt_succ_of_le (lo_le _ _)
    refine lv_iload_n hx hb dX6_isSound_64 rfl (lv_at hl 3 rfl) ?_
    refine lv_bipush (v := nI 16) hx hb dX6_isSound_65 zkb_16 ?_
    refine z_rem hx hb (by omega) (by omega) (by omega) dX6_isSound_67 ?_
    refine lv_iload hx hb dX6_isSound_68 (lv_at hl 2 rfl) ?_
    refine lv_bipush (v := nI 16) hx hb dX6_isSound_70 zkb_16 ?_
    refine z_rem hx hb (by omega) (by omega) (by omega) dX6_isSound_72 ?_
    refine z_ci (va_runS (As := [.int (nI ((rf j) % 16)), .int (nI ((rf k) % 16))]) (rest := [.int (nI (tp ((rf j) % 16) ((rf k) % 16)))]) ⟨hx, hb, hml, hown, hts⟩ (c_X6_productOf_256 l D ((rf j) % 16) ((rf k) % 16) (by omega) (by omega)) (va_cwS 2 hts gX6_isSound_X6_productOf rfl rfl rfl (by decide +kernel) ⟨Nat.le_of_ble_eq_true rfl, Nat.le_of_ble_eq_true rfl⟩) ⟨z_fb0, fun U hU hW => ⟨rfl, trivial⟩⟩ rfl rfl hl.1 rfl (lv_room (Nat.le_of_ble_eq_true rfl)) dX6_isSound_73 ⟨Nat.le_of_ble_eq_true rfl, Nat.le_of_ble_eq_true rfl⟩) (fun r73 e73 => ?_)
    subst e73
    have hn73 : np ((rf j) % 16) ((rf k) % 16) < 256 := np_lt (by omega) (by omega)
    refine z_cne (tgt := 98) hx hb (by omega) (by omega) dX6_isSound_76 (by decide) (fun c_76 => ?_) (fun c_76 => ?_)
    · refine lv_iconst (v := nI 0) hx hb dX6_isSound_98 zki_0 ?_
      refine lv_istore (lv' := [(7, .int (nI 0)), (6, .int (nI (rt (rf j)))), (5, .int (nI ((rf j) ^^^ (rf k)))), (4, .int (nI (rf k))), (3, .int (nI (rf j))), (0, .ref mo), (1, .int (nI j)), (2, .int (nI k))]) hx hb dX6_isSound_99 hl (by decide) rfl (fun ls hl => ?_)
      refine lv_iload hx hb dX6_isSound_101 (lv_at hl 0 rfl) ?_
      refine z_feq (tgt := 169) hx hb (by omega) dX6_isSound_103 (by decide) (fun c_103 => ?_) (fun c_103 => absurd c_103 (by decide))
      refine lv_iconst (v := nI 0) hx hb dX6_isSound_169 zki_0 ?_
      refine lv_istore (lv' := [(7, .int (nI 0)), (6, .int (nI (rt (rf j)))), (5, .int (nI ((rf j) ^^^ (rf k)))), (4, .int (nI (rf k))), (3, .int (nI (rf j))), (0, .ref mo), (1, .int (nI j)), (2, .int (nI k))]) hx hb dX6_isSound_170 hl (by decide) rfl (fun ls hl => ?_)
      refine lv_iload hx hb dX6_isSound_172 (lv_at hl 0 rfl) ?_
      refine z_feq (tgt := 221) hx hb (by omega) dX6_isSound_174 (by decide) (fun c_174 => ?_) (fun c_174 => absurd c_174 (by decide))
      refine lv_iconst (v := nI 0) hx hb dX6_isSound_221 zki_0 ?_
      have hP9 := hP.sub (ws' := [(mo, .inr (8, [.int (nI 0), .ref ra, .ref ca, .ref ha, .int (nI kp), .ref ba, .int (nI hd), .ref wa])), (ra, .inl (kr, 8, .inl (aN rf))), (ca, .inl (kc, 8, .inl (aN cf))), (ha, .inl (kh, 8, .inl (aN hf)))]) [3, 0, 1, 2] rfl
      have hD9 := hD.sub (ws' := [(mo, .inr (8, [.int (nI 0), .ref ra, .ref ca, .ref ha, .int (nI kp), .ref ba, .int (nI hd), .ref wa])), (ra, .inl (kr, 8, .inl (aN rf))), (ca, .inl (kc, 8, .inl (aN cf))), (ha, .inl (kh, 8, .inl (aN hf)))]) [3, 0, 1, 2] (by decide) rfl
      have hK9 := hK.sub (tys' := [(kr, .int), (kc, .int), (kh, .int)]) [0, 1, 2] rfl
      subst hAe
      refine W.widen (k := 2) (n := 273) (Nat.le_of_ble_eq_true rfl) (Nat.le_of_ble_eq_true rfl) ?_
      refine zt (show nI 0 = bI false from rfl) ?_
      exact W.zret (ty := .boolean) hx hb hr (z_narB _) (fun t ht hW => ⟨⟨_, (), rfl, (congrArg bI (dB_f (fun q => by first | exact c_49 q.1.1 | exact c_76 q.1.2 | exact c_91 q.2.1.1 | exact c_126 q.2.1.2 | exact c_151 q.2.2.1.1 | exact c_162 q.2.2.1.2 | exact q.2.2.2.1.elim (fun z => by omega) c_194 | exact c_214 q.2.2.2.2)).symm), by rw [ht]; exact hP9, va_K.moved hW.alike hK9, hD9⟩, hS.F ht⟩) hS.2.2 dX6_isSound_222
    · refine lv_iload_n hx hb dX6_isSound_79 rfl (lv_at hl 3 rfl) ?_
      refine lv_iload hx hb dX6_isSound_80 (lv_at hl 2 rfl) ?_
      refine z_ci (va_runS (As := [.int (nI (rf j)), .int (nI (rf k))]) (rest := []) ⟨hx, hb, hml, hown, hts⟩ (c_X6_productOf_256 l D (rf j) (rf k) (by omega) (by omega)) (va_cwS 2 hts gX6_isSound_X6_productOf rfl rfl rfl (by decide +kernel) ⟨Nat.le_of_ble_eq_true rfl, Nat.le_of_ble_eq_true rfl⟩) ⟨z_fb0, fun U hU hW => ⟨rfl, trivial⟩⟩ rfl rfl hl.1 rfl (lv_room (Nat.le_of_ble_eq_true rfl)) dX6_isSound_82 ⟨Nat.le_of_ble_eq_true rfl, Nat.le_of_ble_eq_true rfl⟩) (fun r82 e82 => ?_)
      subst e82
      have hn82 : np (rf j) (rf k) < 256 := np_lt (by omega) (by omega)
      refine lv_iload hx hb dX6_isSound_85 (lv_at hl 2 rfl) ?_
      refine lv_iload_n hx hb dX6_isSound_87 rfl (lv_at hl 3 rfl) ?_
      refine z_ci (va_runS (As := [.int (nI (rf k)), .int (nI (rf j))]) (rest := [.int (nI (np (rf j) (rf k)))]) ⟨hx, hb, hml, hown, hts⟩ (c_X6_productOf_256 l D (rf k) (rf j) (by omega) (by omega)) (va_cwS 2 hts gX6_isSound_X6_productOf rfl rfl rfl (by decide +kernel) ⟨Nat.le_of_ble_eq_true rfl, Nat.le_of_ble_eq_true rfl⟩) ⟨z_fb0, fun U hU hW => ⟨rfl, trivial⟩⟩ rfl rfl hl.1 rfl (lv_room (Nat.le_of_ble_eq_true rfl)) dX6_isSound_88 ⟨Nat.le_of_ble_eq_true rfl, Nat.le_of_ble_eq_true rfl⟩) (fun r88 e88 => ?_)
      subst e88
      have hn88 : np (rf k) (rf j) < 256 := np_lt (by omega) (by omega)
      refine z_cne (tgt := 98) hx hb (by omega) (by omega) dX6_isSound_91 (by decide) (fun c_91 => ?_) (fun c_91 => ?_)
      · refine lv_iconst (v := nI 0) hx hb dX6_isSound_98 zki_0 ?_
        refine lv_istore (lv' := [(7, .int (nI 0)), (6, .int (nI (rt (rf j)))), (5, .int (nI ((rf j) ^^^ (rf k)))), (4, .int (nI (rf k))), (3, .int (nI (rf j))), (0, .ref mo), (1, .int (nI j)), (2, .int (nI k))]) hx hb dX6_isSound_99 hl (by decide) rfl (fun ls hl => ?_)
        refine lv_iload hx hb dX6_isSound_101 (lv_at hl 0 rfl) ?_
        refine z_feq (tgt := 169) hx hb (by omega) dX6_isSound_103 (by decide) (fun c_103 => ?_) (fun c_103 => absurd c_103 (by decide))
        refine lv_iconst (v := nI 0) hx hb dX6_isSound_169 zki_0 ?_
        refine lv_istore (lv' := [(7, .int (nI 0)), (6, .int (nI (rt (rf j)))), (5, .int (nI ((rf j) ^^^ (rf k)))), (4, .int (nI (rf k))), (3, .int (nI (rf j))), (0, .ref mo), (1, .int (nI j)), (2, .int (nI k))]) hx hb dX6_isSound_170 hl (by decide) rfl (fun ls hl => ?_)
        refine lv_iload hx hb dX6_isSound_172 (lv_at hl 0 rfl) ?_
        refine z_feq (tgt := 221) hx hb (by omega) dX6_isSound_174 (by decide) (fun c_174 => ?_) (fun c_174 => absurd c_174 (by decide))
        refine lv_iconst (v := nI 0) hx hb dX6_isSound_221 zki_0 ?_
        have hP9 := hP.sub (ws' := [(mo, .inr (8, [.int (nI 0), .ref ra, .ref ca, .ref ha, .int (nI kp), .ref ba, .int (nI hd), .ref wa])), (ra, .inl (kr, 8, .inl (aN rf))), (ca, .inl (kc, 8, .inl (aN cf))), (ha, .inl (kh, 8, .inl (aN hf)))]) [3, 0, 1, 2] rfl
        have hD9 := hD.sub (ws' := [(mo, .inr (8, [.int (nI 0), .ref ra, .ref ca, .ref ha, .int (nI kp), .ref ba, .int (nI hd), .ref wa])), (ra, .inl (kr, 8, .inl (aN rf))), (ca, .inl (kc, 8, .inl (aN cf))), (ha, .inl (kh, 8, .inl (aN hf)))]) [3, 0, 1, 2] (by decide) rfl
        have hK9 := hK.sub (tys' := [(kr, .int), (kc, .int), (kh, .int)]) [0, 1, 2] rfl
        subst hAe
        refine W.widen (k := 2) (n := 273) (Nat.le_of_ble_eq_true rfl) (Nat.le_of_ble_eq_true rfl) ?_
        refine zt (show nI 0 = bI false from rfl) ?_
        exact W.zret (ty := .boolean) hx hb hr (z_narB _) (fun t ht hW => ⟨⟨_, (), rfl, (congrArg bI (dB_f (fun q => by first | exact c_49 q.1.1 | exact c_76 q.1.2 | exact c_91 q.2.1.1 | exact c_126 q.2.1.2 | exact c_151 q.2.2.1.1 | exact c_162 q.2.2.1.2 | exact q.2.2.2.1.elim (fun z => by omega) c_194 | exact c_214 q.2.2.2.2)).symm), by rw [ht]; exact hP9, va_K.moved hW.alike hK9, hD9⟩, hS.F ht⟩) hS.2.2 dX6_isSound_222
      · refine lv_iconst (v := nI 1) hx hb dX6_isSound_94 zki_1 ?_
        refine lv_goto (tgt := 99) hx hb dX6_isSound_95 (by decide) ?_
        refine lv_istore (lv' := [(7, .int (nI 1)), (6, .int (nI (rt (rf j)))), (5, .int (nI ((rf j) ^^^ (rf k)))), (4, .int (nI (rf k))), (3, .int (nI (rf j))), (0, .ref mo), (1, .int (nI j)), (2, .int (nI k))]) hx hb dX6_isSound_99 hl (by decide) rfl (fun ls hl => ?_)
        refine lv_iload hx hb dX6_isSound_101 (lv_at hl 0 rfl) ?_
        refine z_feq (tgt := 169) hx hb (by omega) dX6_isSound_103 (by decide) (fun c_103 => absurd c_103 (by decide)) (fun c_103 => ?_)
        refine lv_iload_n hx hb dX6_isSound_106 rfl (lv_at hl 4 rfl) ?_
        refine lv_iload hx hb dX6_isSound_107 (lv_at hl 3 rfl) ?_
        refine lv_iconst (v := nI 1) hx hb dX6_isSound_109 zki_1 ?_
        refine z_ci (va_runS (As := [.int (nI (rf k)), .int (nI 1)]) (rest := [.int (nI (rf j))]) ⟨hx, hb, hml, hown, hts⟩ (c_X6_sumOf l D (rf k) 1 (by omega) (by omega)) (va_cwS 2 hts gX6_isSound_X6_sumOf rfl rfl rfl (by decide +kernel) ⟨Nat.le_of_ble_eq_true rfl, Nat.le_of_ble_eq_true rfl⟩) ⟨z_fb0, fun U hU hW => ⟨rfl, trivial⟩⟩ rfl rfl hl.1 rfl (lv_room (Nat.le_of_ble_eq_true rfl)) dX6_isSound_110 ⟨Nat.le_of_ble_eq_true rfl, Nat.le_of_ble_eq_true rfl⟩) (fun r110 e110 => ?_)
        subst e110
        have hx110 : (rf k) ^^^ 1 < 256 := zx8 (by omega) (by omega)
        refine z_ci (va_runS (As := [.int (nI (rf j)), .int (nI ((rf k) ^^^ 1))]) (rest := []) ⟨hx, hb, hml, hown, hts⟩ (c_X6_productOf_256 l D (rf j) ((rf k) ^^^ 1) (by omega) (by omega)) (va_cwS 2 hts gX6_isSound_X6_productOf rfl rfl rfl (by decide +kernel) ⟨Nat.le_of_ble_eq_true rfl, Nat.le_of_ble_eq_true rfl⟩) ⟨z_fb0, fun U hU hW => ⟨rfl, trivial⟩⟩ rfl rfl hl.1 rfl (lv_room (Nat.le_of_ble_eq_true rfl)) dX6_isSound_113 ⟨Nat.le_of_ble_eq_true rfl, Nat.le_of_ble_eq_true rfl⟩) (fun r113 e113 => ?_)
        subst e113
        have hn113 : np (rf j) ((rf k) ^^^ 1) < 256 := np_lt (by omega) (by omega)
        refine lv_iload_n hx hb dX6_isSound_116 rfl (lv_at hl 4 rfl) ?_
        refine lv_iload hx hb dX6_isSound_117 (lv_at hl 3 rfl) ?_
        refine z_ci (va_runS (As := [.int (nI (rf j)), .int (nI (rf k))]) (rest := [.int (nI (np (rf j) ((rf k) ^^^ 1)))]) ⟨hx, hb, hml, hown, hts⟩ (c_X6_productOf_256 l D (rf j) (rf k) (by omega) (by omega)) (va_cwS 2 hts gX6_isSound_X6_productOf rfl rfl rfl (by decide +kernel) ⟨Nat.le_of_ble_eq_true rfl, Nat.le_of_ble_eq_true rfl⟩) ⟨z_fb0, fun U hU hW => ⟨rfl, trivial⟩⟩ rfl rfl hl.1 rfl (lv_room (Nat.le_of_ble_eq_true rfl)) dX6_isSound_119 ⟨Nat.le_of_ble_eq_true rfl, Nat.le_of_ble_eq_true rfl⟩) (fun r119 e119 => ?_)
        subst e119
        have hn119 : np (rf j) (rf k) < 256 := np_lt (by omega) (by omega)
        refine lv_iload_n hx hb dX6_isSound_122 rfl (lv_at hl 4 rfl) ?_
        refine z_ci (va_runS (As := [.int (nI (np (rf j) (rf k))), .int (nI (rf j))]) (rest := [.int (nI (np (rf j) ((rf k) ^^^ 1)))]) ⟨hx, hb, hml, hown, hts⟩ (c_X6_sumOf l D (np (rf j) (rf k)) (rf j) (by omega) (by omega)) (va_cwS 2 hts gX6_isSound_X6_sumOf rfl rfl rfl (by decide +kernel) ⟨Nat.le_of_ble_eq_true rfl, Nat.le_of_ble_eq_true rfl⟩) ⟨z_fb0, fun U hU hW => ⟨rfl, trivial⟩⟩ rfl rfl hl.1 rfl (lv_room (Nat.le_of_ble_eq_true rfl)) dX6_isSound_123 ⟨Nat.le_of_ble_eq_true rfl, Nat.le_of_ble_eq_true rfl⟩) (fun r123 e123 => ?_)
        subst e123
        have hx123 : (np (rf j) (rf k)) ^^^ (rf j) < 256 := zx8 (by omega) (by omega)
        refine z_cne (tgt := 169) hx hb (by omega) (by omega) dX6_isSound_126 (by decide) (fun c_126 => ?_) (fun c_126 => ?_)
        · refine lv_iconst (v := nI 0) hx hb dX6_isSound_169 zki_0 ?_
          refine lv_istore (lv' := [(7, .int (nI 0)), (6, .int (nI (rt (rf j)))), (5, .int (nI ((rf j) ^^^ (rf k)))), (4, .int (nI (rf k))), (3, .int (nI (rf j))), (0, .ref mo), (1, .int (nI j)), (2, .int (nI k))]) hx hb dX6_isSound_170 hl (by decide) rfl (fun ls hl => ?_)
          refine lv_iload hx hb dX6_isSound_172 (lv_at hl 0 rfl) ?_
          refine z_feq (tgt := 221) hx hb (by omega) dX6_isSound_174 (by decide) (fun c_174 => ?_) (fun c_174 => absurd c_174 (by decide))
          refine lv_iconst (v := nI 0) hx hb dX6_isSound_221 zki_0 ?_
          have hP9 := hP.sub (ws' := [(mo, .inr (8, [.int (nI 0), .ref ra, .ref ca, .ref ha, .int (nI kp), .ref ba, .int (nI hd), .ref wa])), (ra, .inl (kr, 8, .inl (aN rf))), (ca, .inl (kc, 8, .inl (aN cf))), (ha, .inl (kh, 8, .inl (aN hf)))]) [3, 0, 1, 2] rfl
          have hD9 := hD.sub (ws' := [(mo, .inr (8, [.int (nI 0), .ref ra, .ref ca, .ref ha, .int (nI kp), .ref ba, .int (nI hd), .ref wa])), (ra, .inl (kr, 8, .inl (aN rf))), (ca, .inl (kc, 8, .inl (aN cf))), (ha, .inl (kh, 8, .inl (aN hf)))]) [3, 0, 1, 2] (by decide) rfl
          have hK9 := hK.sub (tys' := [(kr, .int), (kc, .int), (kh, .int)]) [0, 1, 2] rfl
          subst hAe
          refine W.widen (k := 2) (n := 273) (Nat.le_of_ble_eq_true rfl) (Nat.le_of_ble_eq_true rfl) ?_
          refine zt (show nI 0 = bI false from rfl) ?_
          exact W.zret (ty := .boolean) hx hb hr (z_narB _) (fun t ht hW => ⟨⟨_, (), rfl, (congrArg bI (dB_f (fun q => by first | exact c_49 q.1.1 | exact c_76 q.1.2 | exact c_91 q.2.1.1 | exact c_126 q.2.1.2 | exact c_151 q.2.2.1.1 | exact c_162 q.2.2.1.2 | exact q.2.2.2.1.elim (fun z => by omega) c_194 | exact c_214 q.2.2.2.2)).symm), by rw [ht]; exact hP9, va_K.moved hW.alike hK9, hD9⟩, hS.F ht⟩) hS.2.2 dX6_isSound_222
        · refine lv_iload hx hb dX6_isSound_129 (lv_at hl 2 rfl) ?_
          refine lv_iload hx hb dX6_isSound_131 (lv_at hl 2 rfl) ?_
          refine z_ci (va_runS (As := [.int (nI ((rf j) ^^^ (rf k))), .int (nI ((rf j) ^^^ (rf k)))]) (rest := []) ⟨hx, hb, hml, hown, hts⟩ (c_X6_productOf_256 l D ((rf j) ^^^ (rf k)) ((rf j) ^^^ (rf k)) (by omega) (by omega)) (va_cwS 2 hts gX6_isSound_X6_productOf rfl rfl rfl (by decide +kernel) ⟨Nat.le_of_ble_eq_true rfl, Nat.le_of_ble_eq_true rfl⟩) ⟨z_fb0, fun U hU hW => ⟨rfl, trivial⟩⟩ rfl rfl hl.1 rfl (lv_room (Nat.le_of_ble_eq_true rfl)) dX6_isSound_133 ⟨Nat.le_of_ble_eq_true rfl, Nat.le_of_ble_eq_true rfl⟩) (fun r133 e133 => ?_)
          subst e133
          have hn133 : np ((rf j) ^^^ (rf k)) ((rf j) ^^^ (rf k)) < 256 := np_lt (by omega) (by omega)
          refine lv_iload_n hx hb dX6_isSound_136 rfl (lv_at hl 4 rfl) ?_
          refine lv_iload_n hx hb dX6_isSound_137 rfl (lv_at hl 4 rfl) ?_
          refine z_ci (va_runS (As := [.int (nI (rf j)), .int (nI (rf j))]) (rest := [.int (nI (np ((rf j) ^^^ (rf k)) ((rf j) ^^^ (rf k))))]) ⟨hx, hb, hml, hown, hts⟩ (c_X6_productOf_256 l D (rf j) (rf j) (by omega) (by omega)) (va_cwS 2 hts gX6_isSound_X6_productOf rfl rfl rfl (by decide +kernel) ⟨Nat.le_of_ble_eq_true rfl, Nat.le_of_ble_eq_true rfl⟩) ⟨z_fb0, fun U hU hW => ⟨rfl, trivial⟩⟩ rfl rfl hl.1 rfl (lv_room (Nat.le_of_ble_eq_true rfl)) dX6_isSound_138 ⟨Nat.le_of_ble_eq_true rfl, Nat.le_of_ble_eq_true rfl⟩) (fun r138 e138 => ?_)
          subst e138
          have hn138 : np (rf j) (rf j) < 256 := np_lt (by omega) (by omega)
          refine lv_iload hx hb dX6_isSound_141 (lv_at hl 3 rfl) ?_
          refine lv_iload hx hb dX6_isSound_143 (lv_at hl 3 rfl) ?_
          refine z_ci (va_runS (As := [.int (nI (rf k)), .int (nI (rf k))]) (rest := [.int (nI (np (rf j) (rf j))), .int (nI (np ((rf j) ^^^ (rf k)) ((rf j) ^^^ (rf k))))]) ⟨hx, hb, hml, hown, hts⟩ (c_X6_productOf_256 l D (rf k) (rf k) (by omega) (by omega)) (va_cwS 2 hts gX6_isSound_X6_productOf rfl rfl rfl (by decide +kernel) ⟨Nat.le_of_ble_eq_true rfl, Nat.le_of_ble_eq_true rfl⟩) ⟨z_fb0, fun U hU hW => ⟨rfl, trivial⟩⟩ rfl rfl hl.1 rfl (lv_room (Nat.le_of_ble_eq_true rfl)) dX6_isSound_145 ⟨Nat.le_of_ble_eq_true rfl, Nat.le_of_ble_eq_true rfl⟩) (fun r145 e145 => ?_)
          subst e145
          have hn145 : np (rf k) (rf k) < 256 := np_lt (by omega) (by omega)
          refine z_ci (va_runS (As := [.int (nI (np (rf j) (rf j))), .int (nI (np (rf k) (rf k)))]) (rest := [.int (nI (np ((rf j) ^^^ (rf k)) ((rf j) ^^^ (rf k))))]) ⟨hx, hb, hml, hown, hts⟩ (c_X6_sumOf l D (np (rf j) (rf j)) (np (rf k) (rf k)) (by omega) (by omega)) (va_cwS 2 hts gX6_isSound_X6_sumOf rfl rfl rfl (by decide +kernel) ⟨Nat.le_of_ble_eq_true rfl, Nat.le_of_ble_eq_true rfl⟩) ⟨z_fb0, fun U hU hW => ⟨rfl, trivial⟩⟩ rfl rfl hl.1 rfl (lv_room (Nat.le_of_ble_eq_true rfl)) dX6_isSound_148 ⟨Nat.le_of_ble_eq_true rfl, Nat.le_of_ble_eq_true rfl⟩) (fun r148 e148 => ?_)
          subst e148
          have hx148 : (np (rf j) (rf j)) ^^^ (np (rf k) (rf k)) < 256 := zx8 (by omega) (by omega)
          refine z_cne (tgt := 169) hx hb (by omega) (by omega) dX6_isSound_151 (by decide) (fun c_151 => ?_) (fun c_151 => ?_)
          · refine lv_iconst (v := nI 0) hx hb dX6_isSound_169 zki_0 ?_
            refine lv_istore (lv' := [(7, .int (nI 0)), (6, .int (nI (rt (rf j)))), (5, .int (nI ((rf j) ^^^ (rf k)))), (4, .int (nI (rf k))), (3, .int (nI (rf j))), (0, .ref mo), (1, .int (nI j)), (2, .int (nI k))]) hx hb dX6_isSound_170 hl (by decide) rfl (fun ls hl => ?_)
            refine lv_iload hx hb dX6_isSound_172 (lv_at hl 0 rfl) ?_
            refine z_feq (tgt := 221) hx hb (by omega) dX6_isSound_174 (by decide) (fun c_174 => ?_) (fun c_174 => absurd c_174 (by decide))
            refine lv_iconst (v := nI 0) hx hb dX6_isSound_221 zki_0 ?_
            have hP9 := hP.sub (ws' := [(mo, .inr (8, [.int (nI 0), .ref ra, .ref ca, .ref ha, .int (nI kp), .ref ba, .int (nI hd), .ref wa])), (ra, .inl (kr, 8, .inl (aN rf))), (ca, .inl (kc, 8, .inl (aN cf))), (ha, .inl (kh, 8, .inl (aN hf)))]) [3, 0, 1, 2] rfl
            have hD9 := hD.sub (ws' := [(mo, .inr (8, [.int (nI 0), .ref ra, .ref ca, .ref ha, .int (nI kp), .ref ba, .int (nI hd), .ref wa])), (ra, .inl (kr, 8, .inl (aN rf))), (ca, .inl (kc, 8, .inl (aN cf))), (ha, .inl (kh, 8, .inl (aN hf)))]) [3, 0, 1, 2] (by decide) rfl
            have hK9 := hK.sub (tys' := [(kr, .int), (kc, .int), (kh, .int)]) [0, 1, 2] rfl
            subst hAe
            refine W.widen (k := 2) (n := 273) (Nat.le_of_ble_eq_true rfl) (Nat.le_of_ble_eq_true rfl) ?_
            refine zt (show nI 0 = bI false from rfl) ?_
            exact W.zret (ty := .boolean) hx hb hr (z_narB _) (fun t ht hW => ⟨⟨_, (), rfl, (congrArg bI (dB_f (fun q => by first | exact c_49 q.1.1 | exact c_76 q.1.2 | exact c_91 q.2.1.1 | exact c_126 q.2.1.2 | exact c_151 q.2.2.1.1 | exact c_162 q.2.2.1.2 | exact q.2.2.2.1.elim (fun z => by omega) c_194 | exact c_214 q.2.2.2.2)).symm), by rw [ht]; exact hP9, va_K.moved hW.alike hK9, hD9⟩, hS.F ht⟩) hS.2.2 dX6_isSound_222
          · refine lv_iload hx hb dX6_isSound_154 (lv_at hl 1 rfl) ?_
            refine lv_iload hx hb dX6_isSound_156 (lv_at hl 1 rfl) ?_
            refine z_ci (va_runS (As := [.int (nI (rt (rf j))), .int (nI (rt (rf j)))]) (rest := []) ⟨hx, hb, hml, hown, hts⟩ (c_X6_productOf_256 l D (rt (rf j)) (rt (rf j)) (by omega) (by omega)) (va_cwS 2 hts gX6_isSound_X6_productOf rfl rfl rfl (by decide +kernel) ⟨Nat.le_of_ble_eq_true rfl, Nat.le_of_ble_eq_true rfl⟩) ⟨z_fb0, fun U hU hW => ⟨rfl, trivial⟩⟩ rfl rfl hl.1 rfl (lv_room (Nat.le_of_ble_eq_true rfl)) dX6_isSound_158 ⟨Nat.le_of_ble_eq_true rfl, Nat.le_of_ble_eq_true rfl⟩) (fun r158 e158 => ?_)
            subst e158
            have hn158 : np (rt (rf j)) (rt (rf j)) < 256 := np_lt (by omega) (by omega)
            refine lv_iload_n hx hb dX6_isSound_161 rfl (lv_at hl 4 rfl) ?_
            refine z_cne (tgt := 169) hx hb (by omega) (by omega) dX6_isSound_162 (by decide) (fun c_162 => ?_) (fun c_162 => ?_)
            · refine lv_iconst (v := nI 0) hx hb dX6_isSound_169 zki_0 ?_
              refine lv_istore (lv' := [(7, .int (nI 0)), (6, .int (nI (rt (rf j)))), (5, .int (nI ((rf j) ^^^ (rf k)))), (4, .int (nI (rf k))), (3, .int (nI (rf j))), (0, .ref mo), (1, .int (nI j)), (2, .int (nI k))]) hx hb dX6_isSound_170 hl (by decide) rfl (fun ls hl => ?_)
              refine lv_iload hx hb dX6_isSound_172 (lv_at hl 0 rfl) ?_
              refine z_feq (tgt := 221) hx hb (by omega) dX6_isSound_174 (by decide) (fun c_174 => ?_) (fun c_174 => absurd c_174 (by decide))
              refine lv_iconst (v := nI 0) hx hb dX6_isSound_221 zki_0 ?_
              have hP9 := hP.sub (ws' := [(mo, .inr (8, [.int (nI 0), .ref ra, .ref ca, .ref ha, .int (nI kp), .ref ba, .int (nI hd), .ref wa])), (ra, .inl (kr, 8, .inl (aN rf))), (ca, .inl (kc, 8, .inl (aN cf))), (ha, .inl (kh, 8, .inl (aN hf)))]) [3, 0, 1, 2] rfl
              have hD9 := hD.sub (ws' := [(mo, .inr (8, [.int (nI 0), .ref ra, .ref ca, .ref ha, .int (nI kp), .ref ba, .int (nI hd), .ref wa])), (ra, .inl (kr, 8, .inl (aN rf))), (ca, .inl (kc, 8, .inl (aN cf))), (ha, .inl (kh, 8, .inl (aN hf)))]) [3, 0, 1, 2] (by decide) rfl
              have hK9 := hK.sub (tys' := [(kr, .int), (kc, .int), (kh, .int)]) [0, 1, 2] rfl
              subst hAe
              refine W.widen (k := 2) (n := 273) (Nat.le_of_ble_eq_true rfl) (Nat.le_of_ble_eq_true rfl) ?_
              refine zt (show nI 0 = bI false from rfl) ?_
              exact W.zret (ty := .boolean) hx hb hr (z_narB _) (fun t ht hW => ⟨⟨_, (), rfl, (congrArg bI (dB_f (fun q => by first | exact c_49 q.1.1 | exact c_76 q.1.2 | exact c_91 q.2.1.1 | exact c_126 q.2.1.2 | exact c_151 q.2.2.1.1 | exact c_162 q.2.2.1.2 | exact q.2.2.2.1.elim (fun z => by omega) c_194 | exact c_214 q.2.2.2.2)).symm), by rw [ht]; exact hP9, va_K.moved hW.alike hK9, hD9⟩, hS.F ht⟩) hS.2.2 dX6_isSound_222
            · refine lv_iconst (v := nI 1) hx hb dX6_isSound_165 zki_1 ?_
              refine lv_goto (tgt := 170) hx hb dX6_isSound_166 (by decide) ?_
              refine lv_istore (lv' := [(7, .int (nI 1)), (6, .int (nI (rt (rf j)))), (5, .int (nI ((rf j) ^^^ (rf k)))), (4, .int (nI (rf k))), (3, .int (nI (rf j))), (0, .ref mo), (1, .int (nI j)), (2, .int (nI k))]) hx hb dX6_isSound_170 hl (by decide) rfl (fun ls hl => ?_)
              refine lv_iload hx hb dX6_isSound_172 (lv_at hl 0 rfl) ?_
              refine z_feq (tgt := 221) hx hb (by omega) dX6_isSound_174 (by decide) (fun c_174 => absurd c_174 (by decide)) (fun c_174 => ?_)
              refine lv_iload hx hb dX6_isSound_177 (lv_at hl 3 rfl) ?_
              refine z_feq (tgt := 197) hx hb (by omega) dX6_isSound_179 (by decide) (fun c_179 => ?_) (fun c_179 => ?_)
              · refine lv_iload hx hb dX6_isSound_197 (lv_at hl 2 rfl) ?_
                refine z_ci (va_runS (As := [.int (nI ((rf j) ^^^ (rf k)))]) (rest := []) ⟨hx, hb, hml, hown, hts⟩ (c_X6_traceOf l D ((rf j) ^^^ (rf k)) (by omega)) (va_cwS 1 hts gX6_isSound_X6_traceOf rfl rfl rfl (by decide +kernel) ⟨Nat.le_of_ble_eq_true rfl, Nat.le_of_ble_eq_true rfl⟩) ⟨z_fb0, fun U hU hW => ⟨rfl, trivial⟩⟩ rfl rfl hl.1 rfl (lv_room (Nat.le_of_ble_eq_true rfl)) dX6_isSound_199 ⟨Nat.le_of_ble_eq_true rfl, Nat.le_of_ble_eq_true rfl⟩) (fun r199 e199 => ?_)
                subst e199
                have hn199 : tr ((rf j) ^^^ (rf k)) < 256 := tr_lt (by omega)
                refine lv_iload_n hx hb dX6_isSound_202 rfl (lv_at hl 4 rfl) ?_
                refine z_ci (va_runS (As := [.int (nI (rf j))]) (rest := [.int (nI (tr ((rf j) ^^^ (rf k))))]) ⟨hx, hb, hml, hown, hts⟩ (c_X6_traceOf l D (rf j) (by omega)) (va_cwS 1 hts gX6_isSound_X6_traceOf rfl rfl rfl (by decide +kernel) ⟨Nat.le_of_ble_eq_true rfl, Nat.le_of_ble_eq_true rfl⟩) ⟨z_fb0, fun U hU hW => ⟨rfl, trivial⟩⟩ rfl rfl hl.1 rfl (lv_room (Nat.le_of_ble_eq_true rfl)) dX6_isSound_203 ⟨Nat.le_of_ble_eq_true rfl, Nat.le_of_ble_eq_true rfl⟩) (fun r203 e203 => ?_)
                subst e203
                have hn203 : tr (rf j) < 256 := tr_lt (by omega)
                refine lv_iload hx hb dX6_isSound_206 (lv_at hl 3 rfl) ?_
                refine z_ci (va_runS (As := [.int (nI (rf k))]) (rest := [.int (nI (tr (rf j))), .int (nI (tr ((rf j) ^^^ (rf k))))]) ⟨hx, hb, hml, hown, hts⟩ (c_X6_traceOf l D (rf k) (by omega)) (va_cwS 1 hts gX6_isSound_X6_traceOf rfl rfl rfl (by decide +kernel) ⟨Nat.le_of_ble_eq_true rfl, Nat.le_of_ble_eq_true rfl⟩) ⟨z_fb0, fun U hU hW => ⟨rfl, trivial⟩⟩ rfl rfl hl.1 rfl (lv_room (Nat.le_of_ble_eq_true rfl)) dX6_isSound_208 ⟨Nat.le_of_ble_eq_true rfl, Nat.le_of_ble_eq_true rfl⟩) (fun r208 e208 => ?_)
                subst e208
                have hn208 : tr (rf k) < 256 := tr_lt (by omega)
                refine z_ci (va_runS (As := [.int (nI (tr (rf j))), .int (nI (tr (rf k)))]) (rest := [.int (nI (tr ((rf j) ^^^ (rf k))))]) ⟨hx, hb, hml, hown, hts⟩ (c_X6_sumOf l D (tr (rf j)) (tr (rf k)) (by omega) (by omega)) (va_cwS 2 hts gX6_isSound_X6_sumOf rfl rfl rfl (by decide +kernel) ⟨Nat.le_of_ble_eq_true rfl, Nat.le_of_ble_eq_true rfl⟩) ⟨z_fb0, fun U hU hW => ⟨rfl, trivial⟩⟩ rfl rfl hl.1 rfl (lv_room (Nat.le_of_ble_eq_true rfl)) dX6_isSound_211 ⟨Nat.le_of_ble_eq_true rfl, Nat.le_of_ble_eq_true rfl⟩) (fun r211 e211 => ?_)
                subst e211
                have hx211 : (tr (rf j)) ^^^ (tr (rf k)) < 256 := zx8 (by omega) (by omega)
                refine z_cne (tgt := 221) hx hb (by omega) (by omega) dX6_isSound_214 (by decide) (fun c_214 => ?_) (fun c_214 => ?_)
                · refine lv_iconst (v := nI 0) hx hb dX6_isSound_221 zki_0 ?_
                  have hP9 := hP.sub (ws' := [(mo, .inr (8, [.int (nI 0), .ref ra, .ref ca, .ref ha, .int (nI kp), .ref ba, .int (nI hd), .ref wa])), (ra, .inl (kr, 8, .inl (aN rf))), (ca, .inl (kc, 8, .inl (aN cf))), (ha, .inl (kh, 8, .inl (aN hf)))]) [3, 0, 1, 2] rfl
                  have hD9 := hD.sub (ws' := [(mo, .inr (8, [.int (nI 0), .ref ra, .ref ca, .ref ha, .int (nI kp), .ref ba, .int (nI hd), .ref wa])), (ra, .inl (kr, 8, .inl (aN rf))), (ca, .inl (kc, 8, .inl (aN cf))), (ha, .inl (kh, 8, .inl (aN hf)))]) [3, 0, 1, 2] (by decide) rfl
                  have hK9 := hK.sub (tys' := [(kr, .int), (kc, .int), (kh, .int)]) [0, 1, 2] rfl
                  subst hAe
                  refine W.widen (k := 2) (n := 273) (Nat.le_of_ble_eq_true rfl) (Nat.le_of_ble_eq_true rfl) ?_
                  refine zt (show nI 0 = bI false from rfl) ?_
                  exact W.zret (ty := .boolean) hx hb hr (z_narB _) (fun t ht hW => ⟨⟨_, (), rfl, (congrArg bI (dB_f (fun q => by first | exact c_49 q.1.1 | exact c_76 q.1.2 | exact c_91 q.2.1.1 | exact c_126 q.2.1.2 | exact c_151 q.2.2.1.1 | exact c_162 q.2.2.1.2 | exact q.2.2.2.1.elim (fun z => by omega) c_194 | exact c_214 q.2.2.2.2)).symm), by rw [ht]; exact hP9, va_K.moved hW.alike hK9, hD9⟩, hS.F ht⟩) hS.2.2 dX6_isSound_222
                · refine lv_iconst (v := nI 1) hx hb dX6_isSound_217 zki_1 ?_
                  refine lv_goto (tgt := 222) hx hb dX6_isSound_218 (by decide) ?_
                  have hP9 := hP.sub (ws' := [(mo, .inr (8, [.int (nI 0), .ref ra, .ref ca, .ref ha, .int (nI kp), .ref ba, .int (nI hd), .ref wa])), (ra, .inl (kr, 8, .inl (aN rf))), (ca, .inl (kc, 8, .inl (aN cf))), (ha, .inl (kh, 8, .inl (aN hf)))]) [3, 0, 1, 2] rfl
                  have hD9 := hD.sub (ws' := [(mo, .inr (8, [.int (nI 0), .ref ra, .ref ca, .ref ha, .int (nI kp), .ref ba, .int (nI hd), .ref wa])), (ra, .inl (kr, 8, .inl (aN rf))), (ca, .inl (kc, 8, .inl (aN cf))), (ha, .inl (kh, 8, .inl (aN hf)))]) [3, 0, 1, 2] (by decide) rfl
                  have hK9 := hK.sub (tys' := [(kr, .int), (kc, .int), (kh, .int)]) [0, 1, 2] rfl
                  subst hAe
                  refine W.widen (k := 2) (n := 273) (Nat.le_of_ble_eq_true rfl) (Nat.le_of_ble_eq_true rfl) ?_
                  refine zt (show nI 1 = bI true from rfl) ?_
                  exact W.zret (ty := .boolean) hx hb hr (z_narB _) (fun t ht hW => ⟨⟨_, (), rfl, (congrArg bI (dB_t ⟨⟨c_49, c_76⟩, ⟨c_91, c_126⟩, ⟨c_151, c_162⟩, by first | exact Or.inl c_179 | exact Or.inr c_194, c_214⟩).symm), by rw [ht]; exact hP9, va_K.moved hW.alike hK9, hD9⟩, hS.F ht⟩) hS.2.2 dX6_isSound_222
              · refine lv_iload_n hx hb dX6_isSound_182 rfl (lv_at hl 4 rfl) ?_
                refine lv_iload hx hb dX6_isSound_183 (lv_at hl 3 rfl) ?_
                refine z_ci (va_runS (As := [.int (nI (rf j)), .int (nI (rf k))]) (rest := []) ⟨hx, hb, hml, hown, hts⟩ (c_X6_quotientOf l D (rf j) (rf k) (by omega) (by omega) (by omega)) (va_cwS 2 hts gX6_isSound_X6_quotientOf rfl rfl rfl (by decide +kernel) ⟨Nat.le_of_ble_eq_true rfl, Nat.le_of_ble_eq_true rfl⟩) ⟨z_fb0, fun U hU hW => ⟨rfl, trivial⟩⟩ rfl rfl hl.1 rfl (lv_room (Nat.le_of_ble_eq_true rfl)) dX6_isSound_185 ⟨Nat.le_of_ble_eq_true rfl, Nat.le_of_ble_eq_true rfl⟩) (fun r185 e185 => ?_)
                subst e185
                have hn185 : qt (rf j) (rf k) < 256 := qt_lt (by omega) (by omega)
                refine lv_iload hx hb dX6_isSound_188 (lv_at hl 3 rfl) ?_
                refine z_ci (va_runS (As := [.int (nI (qt (rf j) (rf k))), .int (nI (rf k))]) (rest := []) ⟨hx, hb, hml, hown, hts⟩ (c_X6_productOf_256 l D (qt (rf j) (rf k)) (rf k) (by omega) (by omega)) (va_cwS 2 hts gX6_isSound_X6_productOf rfl rfl rfl (by decide +kernel) ⟨Nat.le_of_ble_eq_true rfl, Nat.le_of_ble_eq_true rfl⟩) ⟨z_fb0, fun U hU hW => ⟨rfl, trivial⟩⟩ rfl rfl hl.1 rfl (lv_room (Nat.le_of_ble_eq_true rfl)) dX6_isSound_190 ⟨Nat.le_of_ble_eq_true rfl, Nat.le_of_ble_eq_true rfl⟩) (fun r190 e190 => ?_)
                subst e190
                have hn190 : np (qt (rf j) (rf k)) (rf k) < 256 := np_lt (by omega) (by omega)
                refine lv_iload_n hx hb dX6_isSound_193 rfl (lv_at hl 4 rfl) ?_
                refine z_cne (tgt := 221) hx hb (by omega) (by omega) dX6_isSound_194 (by decide) (fun c_194 => ?_) (fun c_194 => ?_)
                · refine lv_iconst (v := nI 0) hx hb dX6_isSound_221 zki_0 ?_
                  have hP9 := hP.sub (ws' := [(mo, .inr (8, [.int (nI 0), .ref ra, .ref ca, .ref ha, .int (nI kp), .ref ba, .int (nI hd), .ref wa])), (ra, .inl (kr, 8, .inl (aN rf))), (ca, .inl (kc, 8, .inl (aN cf))), (ha, .inl (kh, 8, .inl (aN hf)))]) [3, 0, 1, 2] rfl
                  have hD9 := hD.sub (ws' := [(mo, .inr (8, [.int (nI 0), .ref ra, .ref ca, .ref ha, .int (nI kp), .ref ba, .int (nI hd), .ref wa])), (ra, .inl (kr, 8, .inl (aN rf))), (ca, .inl (kc, 8, .inl (aN cf))), (ha, .inl (kh, 8, .inl (aN hf)))]) [3, 0, 1, 2] (by decide) rfl
                  have hK9 := hK.sub (tys' := [(kr, .int), (kc, .int), (kh, .int)]) [0, 1, 2] rfl
                  subst hAe
                  refine W.widen (k := 2) (n := 273) (Nat.le_of_ble_eq_true rfl) (Nat.le_of_ble_eq_true rfl) ?_
                  refine zt (show nI 0 = bI false from rfl) ?_
                  exact W.zret (ty := .boolean) hx hb hr (z_narB _) (fun t ht hW => ⟨⟨_, (), rfl, (congrArg bI (dB_f (fun q => by first | exact c_49 q.1.1 | exact c_76 q.1.2 | exact c_91 q.2.1.1 | exact c_126 q.2.1.2 | exact c_151 q.2.2.1.1 | exact c_162 q.2.2.1.2 | exact q.2.2.2.1.elim (fun z => by omega) c_194 | exact c_214 q.2.2.2.2)).symm), by rw [ht]; exact hP9, va_K.moved hW.alike hK9, hD9⟩, hS.F ht⟩) hS.2.2 dX6_isSound_222
                · refine lv_iload hx hb dX6_isSound_197 (lv_at hl 2 rfl) ?_
                  refine z_ci (va_runS (As := [.int (nI ((rf j) ^^^ (rf k)))]) (rest := []) ⟨hx, hb, hml, hown, hts⟩ (c_X6_traceOf l D ((rf j) ^^^ (rf k)) (by omega)) (va_cwS 1 hts gX6_isSound_X6_traceOf rfl rfl rfl (by decide +kernel) ⟨Nat.le_of_ble_eq_true rfl, Nat.le_of_ble_eq_true rfl⟩) ⟨z_fb0, fun U hU hW => ⟨rfl, trivial⟩⟩ rfl rfl hl.1 rfl (lv_room (Nat.le_of_ble_eq_true rfl)) dX6_isSound_199 ⟨Nat.le_of_ble_eq_true rfl, Nat.le_of_ble_eq_true rfl⟩) (fun r199 e199 => ?_)
                  subst e199
                  have hn199 : tr ((rf j) ^^^ (rf k)) < 256 := tr_lt (by omega)
                  refine lv_iload_n hx hb dX6_isSound_202 rfl (lv_at hl 4 rfl) ?_
                  refine z_ci (va_runS (As := [.int (nI (rf j))]) (rest := [.int (nI (tr ((rf j) ^^^ (rf k))))]) ⟨hx, hb, hml, hown, hts⟩ (c_X6_traceOf l D (rf j) (by omega)) (va_cwS 1 hts gX6_isSound_X6_traceOf rfl rfl rfl (by decide +kernel) ⟨Nat.le_of_ble_eq_true rfl, Nat.le_of_ble_eq_true rfl⟩) ⟨z_fb0, fun U hU hW => ⟨rfl, trivial⟩⟩ rfl rfl hl.1 rfl (lv_room (Nat.le_of_ble_eq_true rfl)) dX6_isSound_203 ⟨Nat.le_of_ble_eq_true rfl, Nat.le_of_ble_eq_true rfl⟩) (fun r203 e203 => ?_)
                  subst e203
                  have hn203 : tr (rf j) < 256 := tr_lt (by omega)
                  refine lv_iload hx hb dX6_isSound_206 (lv_at hl 3 rfl) ?_
                  refine z_ci (va_runS (As := [.int (nI (rf k))]) (rest := [.int (nI (tr (rf j))), .int (nI (tr ((rf j) ^^^ (rf k))))]) ⟨hx, hb, hml, hown, hts⟩ (c_X6_traceOf l D (rf k) (by omega)) (va_cwS 1 hts gX6_isSound_X6_traceOf rfl rfl rfl (by decide +kernel) ⟨Nat.le_of_ble_eq_true rfl, Nat.le_of_ble_eq_true rfl⟩) ⟨z_fb0, fun U hU hW => ⟨rfl, trivial⟩⟩ rfl rfl hl.1 rfl (lv_room (Nat.le_of_ble_eq_true rfl)) dX6_isSound_208 ⟨Nat.le_of_ble_eq_true rfl, Nat.le_of_ble_eq_true rfl⟩) (fun r208 e208 => ?_)
                  subst e208
                  have hn208 : tr (rf k) < 256 := tr_lt (by omega)
                  refine z_ci (va_runS (As := [.int (nI (tr (rf j))), .int (nI (tr (rf k)))]) (rest := [.int (nI (tr ((rf j) ^^^ (rf k))))]) ⟨hx, hb, hml, hown, hts⟩ (c_X6_sumOf l D (tr (rf j)) (tr (rf k)) (by omega) (by omega)) (va_cwS 2 hts gX6_isSound_X6_sumOf rfl rfl rfl (by decide +kernel) ⟨Nat.le_of_ble_eq_true rfl, Nat.le_of_ble_eq_true rfl⟩) ⟨z_fb0, fun U hU hW => ⟨rfl, trivial⟩⟩ rfl rfl hl.1 rfl (lv_room (Nat.le_of_ble_eq_true rfl)) dX6_isSound_211 ⟨Nat.le_of_ble_eq_true rfl, Nat.le_of_ble_eq_true rfl⟩) (fun r211 e211 => ?_)
                  subst e211
                  have hx211 : (tr (rf j)) ^^^ (tr (rf k)) < 256 := zx8 (by omega) (by omega)
                  refine z_cne (tgt := 221) hx hb (by omega) (by omega) dX6_isSound_214 (by decide) (fun c_214 => ?_) (fun c_214 => ?_)
                  · refine lv_iconst (v := nI 0) hx hb dX6_isSound_221 zki_0 ?_
                    have hP9 := hP.sub (ws' := [(mo, .inr (8, [.int (nI 0), .ref ra, .ref ca, .ref ha, .int (nI kp), .ref ba, .int (nI hd), .ref wa])), (ra, .inl (kr, 8, .inl (aN rf))), (ca, .inl (kc, 8, .inl (aN cf))), (ha, .inl (kh, 8, .inl (aN hf)))]) [3, 0, 1, 2] rfl
                    have hD9 := hD.sub (ws' := [(mo, .inr (8, [.int (nI 0), .ref ra, .ref ca, .ref ha, .int (nI kp), .ref ba, .int (nI hd), .ref wa])), (ra, .inl (kr, 8, .inl (aN rf))), (ca, .inl (kc, 8, .inl (aN cf))), (ha, .inl (kh, 8, .inl (aN hf)))]) [3, 0, 1, 2] (by decide) rfl
                    have hK9 := hK.sub (tys' := [(kr, .int), (kc, .int), (kh, .int)]) [0, 1, 2] rfl
                    subst hAe
                    refine W.widen (k := 2) (n := 273) (Nat.le_of_ble_eq_true rfl) (Nat.le_of_ble_eq_true rfl) ?_
                    refine zt (show nI 0 = bI false from rfl) ?_
                    exact W.zret (ty := .boolean) hx hb hr (z_narB _) (fun t ht hW => ⟨⟨_, (), rfl, (congrArg bI (dB_f (fun q => by first | exact c_49 q.1.1 | exact c_76 q.1.2 | exact c_91 q.2.1.1 | exact c_126 q.2.1.2 | exact c_151 q.2.2.1.1 | exact c_162 q.2.2.1.2 | exact q.2.2.2.1.elim (fun z => by omega) c_194 | exact c_214 q.2.2.2.2)).symm), by rw [ht]; exact hP9, va_K.moved hW.alike hK9, hD9⟩, hS.F ht⟩) hS.2.2 dX6_isSound_222
                  · refine lv_iconst (v := nI 1) hx hb dX6_isSound_217 zki_1 ?_
                    refine lv_goto (tgt := 222) hx hb dX6_isSound_218 (by decide) ?_
                    have hP9 := hP.sub (ws' := [(mo, .inr (8, [.int (nI 0), .ref ra, .ref ca, .ref ha, .int (nI kp), .ref ba, .int (nI hd), .ref wa])), (ra, .inl (kr, 8, .inl (aN rf))), (ca, .inl (kc, 8, .inl (aN cf))), (ha, .inl (kh, 8, .inl (aN hf)))]) [3, 0, 1, 2] rfl
                    have hD9 := hD.sub (ws' := [(mo, .inr (8, [.int (nI 0), .ref ra, .ref ca, .ref ha, .int (nI kp), .ref ba, .int (nI hd), .ref wa])), (ra, .inl (kr, 8, .inl (aN rf))), (ca, .inl (kc, 8, .inl (aN cf))), (ha, .inl (kh, 8, .inl (aN hf)))]) [3, 0, 1, 2] (by decide) rfl
                    have hK9 := hK.sub (tys' := [(kr, .int), (kc, .int), (kh, .int)]) [0, 1, 2] rfl
                    subst hAe
                    refine W.widen (k := 2) (n := 273) (Nat.le_of_ble_eq_true rfl) (Nat.le_of_ble_eq_true rfl) ?_
                    refine zt (show nI 1 = bI true from rfl) ?_
                    exact W.zret (ty := .boolean) hx hb hr (z_narB _) (fun t ht hW => ⟨⟨_, (), rfl, (congrArg bI (dB_t ⟨⟨c_49, c_76⟩, ⟨c_91, c_126⟩, ⟨c_151, c_162⟩, by first | exact Or.inl c_179 | exact Or.inr c_194, c_214⟩).symm), by rw [ht]; exact hP9, va_K.moved hW.alike hK9, hD9⟩, hS.F ht⟩) hS.2.2 dX6_isSound_222
abbrev rm_c_X6_isSound_no : Room := { frames := 2, cells := 0, slots := 0, locals := 45 }
abbrev q_c_X6_isSound_no (D : va_G) (sz : Nat) (mo : Nat) (ra : Nat) (ca : Nat) (ha : Nat) (ba : Nat) (wa : Nat) (kp : Nat) (hd : Nat) (kr : ClassId) (kc : ClassId) (kh : ClassId) (th : Nat) (rf : Nat → Nat) (cf : Nat → Nat) (hf : Nat → Nat) (x0 : Int32) (x1 : Int32) : Array Value → State → Outcome → State → Prop := va_Qi (fun r (_ : Unit) => r = (bI false)) (fun (_ : Unit) t => va_P D vwCl [(mo, .inr (8, [.int (nI 1), .ref ra, .ref ca, .ref ha, .int (nI kp), .ref ba, .int (nI hd), .ref wa])), (ra, .inl (kr, 8, .inl (aN rf))), (ca, .inl (kc, 8, .inl (aN cf))), (ha, .inl (kh, 8, .inl (aN hf)))] t.heap ∧ va_K D vwCl [(kr, .int), (kc, .int), (kh, .int)] t ∧ va_D (va_A [(mo, .inr (8, [.int (nI th), .ref ra, .ref ca, .ref ha, .int (nI kp), .ref ba, .int (nI hd), .ref wa])), (ra, .inl (kr, 8, .inl (aN rf))), (ca, .inl (kc, 8, .inl (aN cf))), (ha, .inl (kh, 8, .inl (aN hf)))] sz) [(mo, .inr (8, [.int (nI 1), .ref ra, .ref ca, .ref ha, .int (nI kp), .ref ba, .int (nI hd), .ref wa])), (ra, .inl (kr, 8, .inl (aN rf))), (ca, .inl (kc, 8, .inl (aN cf))), (ha, .inl (kh, 8, .inl (aN hf)))]) (va_A [(mo, .inr (8, [.int (nI th), .ref ra, .ref ca, .ref ha, .int (nI kp), .ref ba, .int (nI hd), .ref wa])), (ra, .inl (kr, 8, .inl (aN rf))), (ca, .inl (kc, 8, .inl (aN cf))), (ha, .inl (kh, 8, .inl (aN hf)))] sz)
set_option maxHeartbeats 4000000 in
set_option maxRecDepth 100000 in
theorem c_X6_isSound_no (l : Launch) (D : va_G) (sz : Nat) (mo : Nat) (ra : Nat) (ca : Nat) (ha : Nat) (ba : Nat) (wa : Nat) (kp : Nat) (hd : Nat) (kr : ClassId) (kc : ClassId) (kh : ClassId) (th : Nat) (rf : Nat → Nat) (cf : Nat → Nat) (hf : Nat → Nat) (x0 : Int32) (x1 : Int32) (hrf : ∀ k, k < 8 → rf k < 256) (hkp : kp ≤ 8) (hno : (inN 8 x0 && inN 8 x1) = false) : Met l yX6_isSound wsX6_isSound rm_c_X6_isSound_no (va_Pc [.ref mo, .int x0, .int x1] (fun U => U.heap.size = sz ∧ va_P D vwCl [(mo, .inr (8, [.int (nI th), .ref ra, .ref ca, .ref ha, .int (nI kp), .ref ba, .int (nI hd), .ref wa])), (ra, .inl (kr, 8, .inl (aN rf))), (ca, .inl (kc, 8, .inl (aN cf))), (ha, .inl (kh, 8, .inl (aN hf)))] U.heap ∧ va_K D vwCl [(kr, .int), (kc, .int), (kh, .int)] U ∧ va_D (fun _ => True) [(mo, .inr (8, [.int (nI th), .ref ra, .ref ca, .ref ha, .int (nI kp), .ref ba, .int (nI hd), .ref wa])), (ra, .inl (kr, 8, .inl (aN rf))), (ca, .inl (kc, 8, .inl (aN cf))), (ha, .inl (kh, 8, .inl (aN hf)))])) (q_c_X6_isSound_no D sz mo ra ca ha ba wa kp hd kr kc kh th rf cf hf x0 x1) 0 0 (va_A [(mo, .inr (8, [.int (nI th), .ref ra, .ref ca, .ref ha, .int (nI kp), .ref ba, .int (nI hd), .ref wa])), (ra, .inl (kr, 8, .inl (aN rf))), (ca, .inl (kc, 8, .inl (aN cf))), (ha, .inl (kh, 8, .inl (aN hf)))] sz) := by
  refine Met.ofW (cc := cX6_isSound) (maxL := 8) (ret := (some .boolean)) (by decide) rfl ?_
  intro p e s m args below meth c s₁ B hml hv
  obtain ⟨hargs, hsz, hP, hK, hD0⟩ := hv
  have hx := B.exec
  have hb := B.bytes
  have hr := B.returns
  have hts := atoms_spec (ws := wsX6_isSound) B.pre
  have hown : s.vm.findClass RX6 = some m.cls := findClass_of_methodNamed B.named
  have hlocks := B.notSynchronized
  subst hsz
  have hD := hD0.self (sz := s.heap.size)
  generalize hAe : va_A [(mo, .inr (8, [.int (nI th), .ref ra, .ref ca, .ref ha, .int (nI kp), .ref ba, .int (nI hd), .ref wa])), (ra, .inl (kr, 8, .inl (aN rf))), (ca, .inl (kc, 8, .inl (aN cf))), (ha, .inl (kh, 8, .inl (aN hf)))] s.heap.size = A at hD ⊢
  have hA : ∀ q : Nat, s.heap.size ≤ q → A q := fun q h => by rw [← hAe]; exact Or.inr h
  have hS : va_S A s.heap s.heap [] := va_S.rf
  have hl := lv_entry ([.ref mo, .int x0, .int x1]) (n := 8) (Nat.le_of_ble_eq_true rfl)
  refine W.eq (g2 := F0 m 0 (lg_sl ([.ref mo, .int x0, .int x1]) ++ List.replicate (8 - (lg_sl ([.ref mo, .int x0, .int x1])).length) Slot.unset).toArray []) (by rw [hargs]; exact lg_entry_eq _ _ _) ?_
  generalize (lg_sl ([.ref mo, .int x0, .int x1]) ++ List.replicate (8 - (lg_sl ([.ref mo, .int x0, .int x1])).length) Slot.unset).toArray = ls at hl ⊢
  have hl : lv_has ls 8 [(0, .ref mo), (1, .int x0), (2, .int x1)] := hl
  refine lv_aload_n hx hb dX6_isSound_0 rfl (lv_at hl 0 rfl) ?_
  refine lv_iload_n hx hb dX6_isSound_1 rfl (lv_at hl 1 rfl) ?_
  refine lv_iload_n hx hb dX6_isSound_2 rfl (lv_at hl 2 rfl) ?_
  refine lv_iconst (v := nI 0) hx hb dX6_isSound_3 zki_0 ?_
  have hPc := hP.sub (ws' := [(mo, .inr (8, [.int (nI th), .ref ra, .ref ca, .ref ha, .int (nI kp), .ref ba, .int (nI hd), .ref wa]))]) [0] rfl
  have hDc := hD.sub (ws' := [(mo, .inr (8, [.int (nI th), .ref ra, .ref ca, .ref ha, .int (nI kp), .ref ba, .int (nI hd), .ref wa]))]) [0] (by decide) rfl
  have hKc := hK.sub (tys' := []) [] rfl
  have hFc := va_free (wc := [(mo, .inr (8, [.int (nI th), .ref ra, .ref ca, .ref ha, .int (nI kp), .ref ba, .int (nI hd), .ref wa]))]) hD hS hA [0] rfl
  refine va_calli (va_runV (As := [.int x0, .int x1, .int (nI 0)]) (rest := []) ⟨hx, hb, hml, hown, hts⟩ (c_X6_areNone_no l D s.heap.size mo ra ca ha ba wa kp hd th x0 x1 (nI 0) (by rw [ok3_2]; exact hno)) (cwV 3 hts gX6_isSound_X6_areNone rfl rfl rfl (by decide +kernel) ⟨Nat.le_of_ble_eq_true rfl, Nat.le_of_ble_eq_true rfl⟩) ⟨(z_fb2), va_recv hK hP (ci := 8) (q0 := 0) rfl rfl, fun U hU hW => ⟨rfl, by rw [hU], by rw [hU]; exact hPc, va_K.moved hW.alike hKc, hDc.weaken (fun _ _ _ _ => trivial)⟩⟩ rfl rfl hl.1 rfl (lv_room (Nat.le_of_ble_eq_true rfl)) dX6_isSound_4 ⟨Nat.le_of_ble_eq_true rfl, Nat.le_of_ble_eq_true rfl⟩) hS (fun q _ h => hFc q h) hFc (fun r4 u4 t H locs ht hvm e4 hB hz1 hk1 hS => ?_)
  obtain ⟨hP1, hK1, hD1⟩ := hB
  rw [ht] at hP1
  obtain ⟨hP, hD⟩ := va_join (wr := [(ra, .inl (kr, 8, .inl (aN rf))), (ca, .inl (kc, 8, .inl (aN cf))), (ha, .inl (kh, 8, .inl (aN hf)))]) (w1 := [(mo, .inr (8, [.int (nI 1), .ref ra, .ref ca, .ref ha, .int (nI kp), .ref ba, .int (nI hd), .ref wa]))]) hP hD [0] [1, 2, 3] rfl rfl (by decide) (by decide) hk1 hFc hP1 hD1
  have hP : va_P D vwCl [(ra, .inl (kr, 8, .inl (aN rf))), (ca, .inl (kc, 8, .inl (aN cf))), (ha, .inl (kh, 8, .inl (aN hf))), (mo, .inr (8, [.int (nI 1), .ref ra, .ref ca, .ref ha, .int (nI kp), .ref ba, .int (nI hd), .ref wa]))] H := hP
  have hD : va_D A [(ra, .inl (kr, 8, .inl (aN rf))), (ca, .inl (kc, 8, .inl (aN cf))), (ha, .inl (kh, 8, .inl (aN hf))), (mo, .inr (8, [.int (nI 1), .ref ra, .ref ca, .ref ha, .int (nI kp), .ref ba, .int (nI hd), .ref wa]))] := hD
  refine W.widen (k := 0) (n := 0) (Nat.le_of_ble_eq_true rfl) (Nat.le_of_ble_eq_true rfl) ?_
  subst e4
  refine z_beq (tgt := 12) hx hb dX6_isSound_7 (by decide) (fun c_7 => absurd c_7 (by decide)) (fun c_7 => ?_)
  refine lv_iconst (v := nI 0) hx hb dX6_isSound_10 zki_0 ?_
  have hP9 := hP.sub (ws' := [(mo, .inr (8, [.int (nI 1), .ref ra, .ref ca, .ref ha, .int (nI kp), .ref ba, .int (nI hd), .ref wa])), (ra, .inl (kr, 8, .inl (aN rf))), (ca, .inl (kc, 8, .inl (aN cf))), (ha, .inl (kh, 8, .inl (aN hf)))]) [3, 0, 1, 2] rfl
  have hD9 := hD.sub (ws' := [(mo, .inr (8, [.int (nI 1), .ref ra, .ref ca, .ref ha, .int (nI kp), .ref ba, .int (nI hd), .ref wa])), (ra, .inl (kr, 8, .inl (aN rf))), (ca, .inl (kc, 8, .inl (aN cf))), (ha, .inl (kh, 8, .inl (aN hf)))]) [3, 0, 1, 2] (by decide) rfl
  have hK9 := hK.sub (tys' := [(kr, .int), (kc, .int), (kh, .int)]) [0, 1, 2] rfl
  subst hAe
  refine W.widen (k := 0) (n := 0) (Nat.le_of_ble_eq_true rfl) (Nat.le_of_ble_eq_true rfl) ?_
  refine zt (show nI 0 = bI false from rfl) ?_
  exact W.zret (ty := .boolean) hx hb hr (z_narB _) (fun t ht hW => ⟨⟨_, (), rfl, (rfl), by rw [ht]; exact hP9, va_K.moved hW.alike hK9, hD9⟩, hS.F ht⟩) hS.2.2 dX6_isSound_11
