/-! The reference's span; a rank is at most eight. -/
theorem xor_hi {k a b : Nat} (ha : a < 2 ^ k) (hb : b < 2 ^ k) : (2 ^ k + a) ^^^ b = 2 ^ k + (a ^^^ b) := by
  have hx : a ^^^ b < 2 ^ k := Nat.xor_lt_two_pow ha hb
  have h1 : ((2 ^ k + a) ^^^ b) / 2 ^ k = 1 := by
    rw [Nat.xor_div_two_pow, Nat.add_div_left _ (Nat.two_pow_pos k), Nat.div_eq_of_lt ha, Nat.div_eq_of_lt hb]; rfl
  have h2 : ((2 ^ k + a) ^^^ b) % 2 ^ k = a ^^^ b := by
    rw [Nat.xor_mod_two_pow, Nat.add_mod_left, Nat.mod_eq_of_lt ha, Nat.mod_eq_of_lt hb]
  have h3 := Nat.div_add_mod ((2 ^ k + a) ^^^ b) (2 ^ k)
  rw [h1, h2, Nat.mul_one] at h3
  exact h3.symm
theorem cn_xor : ∀ (k : Nat) (f : Nat → Bool) (i : Nat), i < 2 ^ k → cn (fun j => f (j ^^^ i)) (2 ^ k) = cn f (2 ^ k)
  | 0, f, i, hi => by
    rw [Nat.pow_zero] at hi
    rw [show i = 0 by omega]
    exact cn_ext _ (fun j _ => by rw [Nat.xor_zero])
  | k + 1, f, i, hi => by
    rw [Nat.pow_succ, Nat.mul_comm, Nat.two_mul] at hi ⊢
    rw [cn_blk, cn_blk]
    rcases Nat.lt_or_ge i (2 ^ k) with q | q
    · rw [cn_xor k f i q]
      congr 1
      rw [← cn_xor k (fun j => f (2 ^ k + j)) i q]
      exact cn_ext _ (fun j hj => by show f ((2 ^ k + j) ^^^ i) = f (2 ^ k + (j ^^^ i)); rw [xor_hi hj q])
    · obtain ⟨i2, rfl⟩ : ∃ z, i = 2 ^ k + z := ⟨i - 2 ^ k, by omega⟩
      have q2 : i2 < 2 ^ k := by omega
      have e1 : cn (fun j => f (j ^^^ (2 ^ k + i2))) (2 ^ k) = cn (fun j => f (2 ^ k + j)) (2 ^ k) := by
        rw [← cn_xor k (fun j => f (2 ^ k + j)) i2 q2]
        exact cn_ext _ (fun j hj => by show f (j ^^^ (2 ^ k + i2)) = f (2 ^ k + (j ^^^ i2)); rw [Nat.xor_comm, xor_hi q2 hj, Nat.xor_comm i2])
      have e2 : cn (fun j => f ((2 ^ k + j) ^^^ (2 ^ k + i2))) (2 ^ k) = cn f (2 ^ k) := by
        rw [← cn_xor k f i2 q2]
        refine cn_ext _ (fun j hj => ?_)
        show f ((2 ^ k + j) ^^^ (2 ^ k + i2)) = f (j ^^^ i2)
        have e3 : 2 ^ k + i2 = 2 ^ k ^^^ i2 := by have := xor_hi (k := k) (a := 0) (b := i2) (Nat.two_pow_pos k) q2; rw [Nat.add_zero, Nat.zero_xor] at this; exact this.symm
        have e4 : 2 ^ k + j = 2 ^ k ^^^ j := by have := xor_hi (k := k) (a := 0) (b := j) (Nat.two_pow_pos k) hj; rw [Nat.add_zero, Nat.zero_xor] at this; exact this.symm
        rw [e3, e4, xor4, Nat.xor_self, Nat.zero_xor]
      rw [e1, e2, Nat.add_comm]
theorem cn_or {f g : Nat → Bool} (h : ∀ k, f k = true → g k = true → False) : ∀ n, cn (fun j => f j || g j) n = cn f n + cn g n
  | 0 => rfl
  | n + 1 => by
    rw [cn, cn, cn, cn_or h n]
    have := h n
    cases hf : f n with
    | false => simp; omega
    | true => cases hg : g n with
      | false => simp; omega
      | true => exact (this hf hg).elim
def clX (T : Nat → Bool) : Prop := T 0 = true ∧ ∀ a b, T a = true → T b = true → T (a ^^^ b) = true
theorem wd_t {T : Nat → Bool} {n j : Nat} : wd T n j = true ↔ (T j = true ∨ T (j ^^^ n) = true) := by unfold wd; rw [Bool.or_eq_true]
theorem clX_wd {T : Nat → Bool} {n : Nat} (h : clX T) : clX (wd T n) := by
  refine ⟨wd_t.mpr (Or.inl h.1), fun a b ha hb => wd_t.mpr ?_⟩
  rcases wd_t.mp ha with p | p <;> rcases wd_t.mp hb with q | q
  · exact Or.inl (h.2 _ _ p q)
  · refine Or.inr ?_
    rw [Nat.xor_assoc]; exact h.2 _ _ p q
  · refine Or.inr ?_
    rw [Nat.xor_assoc, Nat.xor_comm b, ← Nat.xor_assoc]; exact h.2 _ _ p q
  · refine Or.inl ?_
    have := h.2 _ _ p q
    rw [xor4, Nat.xor_self, Nat.xor_zero] at this; exact this
theorem clX_spk (f : Nat → Bool) : ∀ i, clX (spk f i)
  | 0 => by
    refine ⟨z_up_eq .., fun a b ha hb => ?_⟩
    have h0 : ∀ x, spk f 0 x = true → x = 0 := fun x hx => by
      rcases Nat.eq_zero_or_pos x with q | q
      · exact q
      · rw [spk, z_up_ne (by omega)] at hx; cases hx
    rw [h0 a ha, h0 b hb, Nat.xor_self]; exact z_up_eq ..
  | i + 1 => by
    rw [spk]; split
    · exact clX_wd (clX_spk f i)
    · exact clX_spk f i
theorem cn_spk (f : Nat → Bool) : ∀ i, i ≤ 256 → cn (spk f i) 256 = 2 ^ rkk f i
  | 0, _ => by
    show cn (va_up (fun _ => false) 0 true) 256 = 2 ^ 0
    decide +kernel
  | i + 1, hi => by
    have ih := cn_spk f i (by omega)
    rw [spk, rkk]
    split
    · rename_i h
      have e1 : cn (wd (spk f i) i) 256 = cn (spk f i) 256 + cn (fun j => spk f i (j ^^^ i)) 256 := cn_or (fun k p q => by
        have := (clX_spk f i).2 _ _ p q
        rw [← Nat.xor_assoc, Nat.xor_self, Nat.zero_xor, h.2] at this; cases this) 256
      rw [e1, cn_xor 8 (spk f i) i (by omega), Nat.pow_succ]
      show cn (spk f i) 256 + cn (spk f i) 256 = _
      rw [ih]; omega
    · exact ih
theorem rkk_8 (f : Nat → Bool) (i : Nat) (hi : i ≤ 256) : rkk f i ≤ 8 := by
  have h1 := cn_spk f i hi
  have h2 := cn_le (spk f i) 256
  rcases Nat.lt_or_ge 8 (rkk f i) with q | q
  · have h3 : 2 ^ 9 ≤ 2 ^ rkk f i := Nat.pow_le_pow_right (by decide) q
    omega
  · exact q
theorem rkk_mono (f : Nat → Bool) {a b : Nat} (h : a ≤ b) : rkk f a ≤ rkk f b := by
  induction b with
  | zero => rw [show a = 0 by omega]; exact Nat.le_refl _
  | succ b ih =>
    rcases Nat.lt_or_ge a (b + 1) with q | q
    · refine Nat.le_trans (ih (by omega)) ?_
      rw [rkk]; split <;> omega
    · rw [show a = b + 1 by omega]; exact Nat.le_refl _
theorem nX6_span_inX6 : ∀ w ∈ u_ws RX6 TX6 8, w ∈ wsX6_span := by decide +kernel
abbrev rm_c_X6_span (bf : Nat → Bool) (n : Nat) : Room := { frames := 1, cells := (1 + rkk bf n), slots := (256 * (1 + rkk bf n)), locals := 25 }
abbrev q_c_X6_span (D : va_G) (sz : Nat) (mo : Nat) (ra : Nat) (ca : Nat) (ha : Nat) (ba : Nat) (wa : Nat) (kp : Nat) (hd : Nat) (kb : ClassId) (th : Nat) (bf : Nat → Bool) (n : Nat) : Array Value → State → Outcome → State → Prop := va_Qr (fun (kt9 : ClassId) => True) (fun (kt9 : ClassId) r t => va_P D vwCl [(mo, .inr (8, [.int (nI th), .ref ra, .ref ca, .ref ha, .int (nI kp), .ref ba, .int (nI hd), .ref wa])), (ba, .inl (kb, 256, .inl (aB bf))), (r, .inl (kt9, 256, .inl (aB (spk bf n))))] t.heap ∧ va_K D vwCl [(kb, .boolean), (kt9, .boolean)] t ∧ va_D (va_A [(mo, .inr (8, [.int (nI th), .ref ra, .ref ca, .ref ha, .int (nI kp), .ref ba, .int (nI hd), .ref wa])), (ba, .inl (kb, 256, .inl (aB bf)))] sz) [(mo, .inr (8, [.int (nI th), .ref ra, .ref ca, .ref ha, .int (nI kp), .ref ba, .int (nI hd), .ref wa])), (ba, .inl (kb, 256, .inl (aB bf))), (r, .inl (kt9, 256, .inl (aB (spk bf n))))]) (va_A [(mo, .inr (8, [.int (nI th), .ref ra, .ref ca, .ref ha, .int (nI kp), .ref ba, .int (nI hd), .ref wa])), (ba, .inl (kb, 256, .inl (aB bf)))] sz)
set_option maxHeartbeats 4000000 in
set_option maxRecDepth 100000 in
theorem c_X6_span (l : Launch) (D : va_G) (sz : Nat) (mo : Nat) (ra : Nat) (ca : Nat) (ha : Nat) (ba : Nat) (wa : Nat) (kp : Nat) (hd : Nat) (kb : ClassId) (th : Nat) (bf : Nat → Bool) (n : Nat) (hn : n ≤ 256) : Met l yX6_span wsX6_span (rm_c_X6_span bf n) (va_Pc [.ref mo, .int (nI n)] (fun U => U.heap.size = sz ∧ va_P D vwCl [(mo, .inr (8, [.int (nI th), .ref ra, .ref ca, .ref ha, .int (nI kp), .ref ba, .int (nI hd), .ref wa])), (ba, .inl (kb, 256, .inl (aB bf)))] U.heap ∧ va_K D vwCl [(kb, .boolean)] U ∧ va_D (fun _ => True) [(mo, .inr (8, [.int (nI th), .ref ra, .ref ca, .ref ha, .int (nI kp), .ref ba, .int (nI hd), .ref wa])), (ba, .inl (kb, 256, .inl (aB bf)))])) (q_c_X6_span D sz mo ra ca ha ba wa kp hd kb th bf n) (1 + rkk bf n) (256 * (1 + rkk bf n)) (va_A [(mo, .inr (8, [.int (nI th), .ref ra, .ref ca, .ref ha, .int (nI kp), .ref ba, .int (nI hd), .ref wa])), (ba, .inl (kb, 256, .inl (aB bf)))] sz) := by
  refine Met.ofW (cc := cX6_span) (maxL := 6) (ret := (some (.array .boolean))) (by decide) rfl ?_
  intro p e s m args below meth c s₁ B hml hv
  obtain ⟨hargs, hsz, hP, hK, hD0⟩ := hv
  have hx := B.exec
  have hb := B.bytes
  have hr := B.returns
  have hts := atoms_spec (ws := wsX6_span) B.pre
  have hown : s.vm.findClass RX6 = some m.cls := findClass_of_methodNamed B.named
  have hlocks := B.notSynchronized
  subst hsz
  have hD := hD0.self (sz := s.heap.size)
  generalize hAe : va_A [(mo, .inr (8, [.int (nI th), .ref ra, .ref ca, .ref ha, .int (nI kp), .ref ba, .int (nI hd), .ref wa])), (ba, .inl (kb, 256, .inl (aB bf)))] s.heap.size = A at hD ⊢
  have hA : ∀ q : Nat, s.heap.size ≤ q → A q := fun q h => by rw [← hAe]; exact Or.inr h
  have hS : va_S A s.heap s.heap [] := va_S.rf
  have hl := lv_entry ([.ref mo, .int (nI n)]) (n := 6) (Nat.le_of_ble_eq_true rfl)
  refine W.eq (g2 := F0 m 0 (lg_sl ([.ref mo, .int (nI n)]) ++ List.replicate (6 - (lg_sl ([.ref mo, .int (nI n)])).length) Slot.unset).toArray []) (by rw [hargs]; exact lg_entry_eq _ _ _) ?_
  generalize (lg_sl ([.ref mo, .int (nI n)]) ++ List.replicate (6 - (lg_sl ([.ref mo, .int (nI n)])).length) Slot.unset).toArray = ls at hl ⊢
  have hl : lv_has ls 6 [(0, .ref mo), (1, .int (nI n))] := hl
  refine lv_sipush (v := nI 256) hx hb dX6_span_0 zks_256 ?_
  refine va_newa (atype := .boolean) (N' := 256) (a0 := (256, .inl (aB (fun _ => false)))) hx hb (hts (.arrayClass .boolean) (by decide +kernel)) rfl hK hP hD hS hA (fun _ => rfl) (z_npos (by decide)) (nI_clamp (by decide)) (by decide) (z_room (c := (1 + rkk bf n)) rfl (by omega)) (z_room (c := (256 * (1 + rkk bf n))) rfl (by omega)) dX6_span_3 (fun q3 cA3 H hK hP hD hS => ?_)
  have hK : va_K D vwCl [(kb, .boolean), (cA3, .boolean)] s := hK
  have hP : va_P D vwCl [(mo, .inr (8, [.int (nI th), .ref ra, .ref ca, .ref ha, .int (nI kp), .ref ba, .int (nI hd), .ref wa])), (ba, .inl (kb, 256, .inl (aB bf))), (q3, .inl (cA3, 256, .inl (aB (fun _ => false))))] H := hP
  have hD : va_D A [(mo, .inr (8, [.int (nI th), .ref ra, .ref ca, .ref ha, .int (nI kp), .ref ba, .int (nI hd), .ref wa])), (ba, .inl (kb, 256, .inl (aB bf))), (q3, .inl (cA3, 256, .inl (aB (fun _ => false))))] := hD
  refine W.widen (k := 1) (n := 256) (Nat.le_of_ble_eq_true rfl) (Nat.le_of_ble_eq_true rfl) ?_
  refine lv_astore_n (lv' := [(2, .ref q3), (0, .ref mo), (1, .int (nI n))]) hx hb dX6_span_5 rfl hl (by decide) rfl (fun ls hl => ?_)
  refine lv_aload_n hx hb dX6_span_6 rfl (lv_at hl 0 rfl) ?_
  refine lv_iconst (v := nI 0) hx hb dX6_span_7 zki_0 ?_
  refine lv_iconst (v := nI 1) hx hb dX6_span_8 zki_1 ?_
  refine zt (show nI 1 = bI true from rfl) ?_
  refine z_zast hx hb hK hP hD hS 2 1 rfl rfl (by omega) (by decide) dX6_span_9 (fun H locs hP hD hS => ?_)
  have hP : va_P D vwCl [(mo, .inr (8, [.int (nI th), .ref ra, .ref ca, .ref ha, .int (nI kp), .ref ba, .int (nI hd), .ref wa])), (ba, .inl (kb, 256, .inl (aB bf))), (q3, .inl (cA3, 256, .inl (aB (va_up (fun _ => false) 0 true))))] H := hP
  have hD : va_D A [(mo, .inr (8, [.int (nI th), .ref ra, .ref ca, .ref ha, .int (nI kp), .ref ba, .int (nI hd), .ref wa])), (ba, .inl (kb, 256, .inl (aB bf))), (q3, .inl (cA3, 256, .inl (aB (va_up (fun _ => false) 0 true))))] := hD
  refine lv_iconst (v := nI 0) hx hb dX6_span_10 zki_0 ?_
  refine lv_istore_n (lv' := [(3, .int (nI 0)), (2, .ref q3), (0, .ref mo), (1, .int (nI n))]) hx hb dX6_span_11 rfl hl (by decide) rfl (fun ls hl => ?_)
  have cut_12 : ∀ (nn9 : Nat) (i : Nat) (ta : Nat) (kt : ClassId) (hi : i ≤ n) (hK : va_K D vwCl [(kb, .boolean), (kt, .boolean)] s) (hn9 : n - i < nn9) (H : Heap) (locs : List Loc) (hP : va_P D vwCl [(mo, .inr (8, [.int (nI th), .ref ra, .ref ca, .ref ha, .int (nI kp), .ref ba, .int (nI hd), .ref wa])), (ba, .inl (kb, 256, .inl (aB bf))), (ta, .inl (kt, 256, .inl (aB (spk bf i))))] H) (hD : va_D A [(mo, .inr (8, [.int (nI th), .ref ra, .ref ca, .ref ha, .int (nI kp), .ref ba, .int (nI hd), .ref wa])), (ba, .inl (kb, 256, .inl (aB bf))), (ta, .inl (kt, 256, .inl (aB (spk bf i))))]) (hS : va_S A s.heap H locs) (ls : Array Slot) (hl : lv_has ls 6 [(0, .ref mo), (1, .int (nI n)), (2, .ref ta), (3, .int (nI i))]), W p l e (headSpec wsX6_span (rm_c_X6_span bf n)).room s m args below meth c H locs (1 + rkk bf i) (256 * (1 + rkk bf i)) (MQ below (q_c_X6_span D s.heap.size mo ra ca ha ba wa kp hd kb th bf n) args s (1 + rkk bf n) (256 * (1 + rkk bf n)) A) (F0 m 12 ls []) := by
    intro nn9
    induction nn9 with
    | zero => intro i ta kt hi hK hn9; exact absurd hn9 (Nat.not_lt_zero _)
    | succ nn9 ih_12 =>
      intro i ta kt hi hK hn9 H locs hP hD hS ls hl
      refine lv_iload_n hx hb dX6_span_12 rfl (lv_at hl 3 rfl) ?_
      have hrk8 := rkk_8 bf i (by omega)
      refine lv_iload_n hx hb dX6_span_13 rfl (lv_at hl 1 rfl) ?_
      refine z_cge (tgt := 96) hx hb (by omega) (by omega) dX6_span_14 (by decide) (fun c_14 => ?_) (fun c_14 => ?_)
      · refine lv_aload_n hx hb dX6_span_96 rfl (lv_at hl 2 rfl) ?_
        have hP9 := hP.sub (ws' := [(mo, .inr (8, [.int (nI th), .ref ra, .ref ca, .ref ha, .int (nI kp), .ref ba, .int (nI hd), .ref wa])), (ba, .inl (kb, 256, .inl (aB bf))), (ta, .inl (kt, 256, .inl (aB (spk bf i))))]) [0, 1, 2] rfl
        have hD9 := hD.sub (ws' := [(mo, .inr (8, [.int (nI th), .ref ra, .ref ca, .ref ha, .int (nI kp), .ref ba, .int (nI hd), .ref wa])), (ba, .inl (kb, 256, .inl (aB bf))), (ta, .inl (kt, 256, .inl (aB (spk bf i))))]) [0, 1, 2] (by decide) rfl
        have hin9 : i = n := by omega
        have hin8 : rkk bf i = rkk bf n := by rw [hin9]
        rw [hin9] at hP9 hD9
        have hK9 := hK.sub (tys' := [(kb, .boolean), (kt, .boolean)]) [0, 1] rfl
        subst hAe
        refine W.widen (k := (1 + rkk bf n)) (n := (256 * (1 + rkk bf n))) (by omega) (by omega) ?_
        exact W.aret hx hb hr (Or.inr ⟨_, rfl⟩) (Or.inr ⟨_, rfl⟩) (fun t ht hW => ⟨⟨kt, _, rfl, (trivial), by rw [ht]; exact hP9, va_K.moved hW.alike hK9, hD9⟩, hS.F ht⟩) hS.2.2 dX6_span_97
      · refine lv_aload_n hx hb dX6_span_17 rfl (lv_at hl 0 rfl) ?_
        refine va_get (D := D) (ci := 8) (v := .ref ba) (C := RX6) (T := TX6) (N := 8) hx hb hts nX6_span_inX6 hown hK hP 0 rfl rfl 5 (by decide) (hts (.fieldLink RX6 19 "GamefieldModel" "basket" "[Z") (by decide +kernel)) (fun _ h9 => h9) rfl dX6_span_18 ?_
        refine lv_iload_n hx hb dX6_span_21 rfl (lv_at hl 3 rfl) ?_
        refine z_zald hx hb hK hP 1 0 rfl rfl (by omega) (by decide) dX6_span_22 ?_
        refine z_beq (tgt := 90) hx hb dX6_span_23 (by decide) (fun c_23 => ?_) (fun c_23 => ?_)
        · have eS : spk bf i = spk bf (i + 1) := by rw [spk, if_neg (fun q => by rw [c_23] at q; cases q.1)]
          have eR : rkk bf (i + 1) = rkk bf i := by rw [rkk, if_neg (fun q => by rw [c_23] at q; cases q.1)]
          refine lv_iinc (v := (nI (i + 1))) (lv' := [(3, .int (nI (i + 1))), (0, .ref mo), (1, .int (nI n)), (2, .ref ta)]) hx hb dX6_span_90 hl (k := 3) rfl (z_inc i 1) (by decide) rfl (fun ls hl => ?_)
          refine lv_goto (tgt := 12) hx hb dX6_span_93 (by decide) ?_
          have hP : va_P D vwCl [(mo, .inr (8, [.int (nI th), .ref ra, .ref ca, .ref ha, .int (nI kp), .ref ba, .int (nI hd), .ref wa])), (ba, .inl (kb, 256, .inl (aB bf))), (ta, .inl (kt, 256, .inl (aB (spk bf (i + 1)))))] H := Eq.mp (congrArg (fun z9 => va_P D vwCl [(mo, .inr (8, [.int (nI th), .ref ra, .ref ca, .ref ha, .int (nI kp), .ref ba, .int (nI hd), .ref wa])), (ba, .inl (kb, 256, .inl (aB bf))), (ta, .inl (kt, 256, .inl (aB z9)))] H) ((show spk bf i = spk bf (i + 1) from eS))) hP
          have hD : va_D A [(mo, .inr (8, [.int (nI th), .ref ra, .ref ca, .ref ha, .int (nI kp), .ref ba, .int (nI hd), .ref wa])), (ba, .inl (kb, 256, .inl (aB bf))), (ta, .inl (kt, 256, .inl (aB (spk bf (i + 1)))))] := Eq.mp (congrArg (fun z9 => va_D A [(mo, .inr (8, [.int (nI th), .ref ra, .ref ca, .ref ha, .int (nI kp), .ref ba, .int (nI hd), .ref wa])), (ba, .inl (kb, 256, .inl (aB bf))), (ta, .inl (kt, 256, .inl (aB z9)))]) ((show spk bf i = spk bf (i + 1) from eS))) hD
          refine W.widen (k := (1 + rkk bf (i + 1))) (n := (256 * (1 + rkk bf (i + 1)))) (by omega) (by omega) ?_
          exact ih_12 (i + 1) ta kt (by omega) (by first | exact hK | exact hK.sub [0, 2] rfl) (by omega) H locs hP hD hS ls (lv_sub hl [1, 2, 3, 0] rfl)
        · refine lv_aload_n hx hb dX6_span_26 rfl (lv_at hl 2 rfl) ?_
          refine lv_iload_n hx hb dX6_span_27 rfl (lv_at hl 3 rfl) ?_
          refine z_zald hx hb hK hP 2 1 rfl rfl (by omega) (by decide) dX6_span_28 ?_
          refine z_beq (tgt := 35) hx hb dX6_span_29 (by decide) (fun c_29 => ?_) (fun c_29 => ?_)
          · have eS : wd (spk bf i) i = spk bf (i + 1) := by rw [spk, if_pos ⟨c_23, c_29⟩]
            have eR : rkk bf (i + 1) = rkk bf i + 1 := by rw [rkk, if_pos ⟨c_23, c_29⟩]
            have hrk := rkk_8 bf (i + 1) (by omega)
            have hmono := rkk_mono bf (show i + 1 ≤ n by omega)
            refine lv_sipush (v := nI 256) hx hb dX6_span_35 zks_256 ?_
            refine va_newa (atype := .boolean) (N' := 256) (a0 := (256, .inl (aB (fun _ => false)))) hx hb (hts (.arrayClass .boolean) (by decide +kernel)) rfl hK hP hD hS hA (fun _ => rfl) (z_npos (by decide)) (nI_clamp (by decide)) (by decide) (z_room (c := (1 + rkk bf n)) rfl (by omega)) (z_room (c := (256 * (1 + rkk bf n))) rfl (by omega)) dX6_span_38 (fun q38 cA38 H hK hP hD hS => ?_)
            have hK : va_K D vwCl [(kb, .boolean), (kt, .boolean), (cA38, .boolean)] s := hK
            have hP : va_P D vwCl [(mo, .inr (8, [.int (nI th), .ref ra, .ref ca, .ref ha, .int (nI kp), .ref ba, .int (nI hd), .ref wa])), (ba, .inl (kb, 256, .inl (aB bf))), (ta, .inl (kt, 256, .inl (aB (spk bf i)))), (q38, .inl (cA38, 256, .inl (aB (fun _ => false))))] H := hP
            have hD : va_D A [(mo, .inr (8, [.int (nI th), .ref ra, .ref ca, .ref ha, .int (nI kp), .ref ba, .int (nI hd), .ref wa])), (ba, .inl (kb, 256, .inl (aB bf))), (ta, .inl (kt, 256, .inl (aB (spk bf i)))), (q38, .inl (cA38, 256, .inl (aB (fun _ => false))))] := hD
            refine W.widen (k := (1 + rkk bf i) + 1) (n := (256 * (1 + rkk bf i)) + 256) (by omega) (by omega) ?_
            refine lv_astore (lv' := [(4, .ref q38), (0, .ref mo), (1, .int (nI n)), (2, .ref ta), (3, .int (nI i))]) hx hb dX6_span_40 hl (by decide) rfl (fun ls hl => ?_)
            refine lv_iconst (v := nI 0) hx hb dX6_span_42 zki_0 ?_
            refine lv_istore (lv' := [(5, .int (nI 0)), (4, .ref q38), (0, .ref mo), (1, .int (nI n)), (2, .ref ta), (3, .int (nI i))]) hx hb dX6_span_43 hl (by decide) rfl (fun ls hl => ?_)
            have cut_45 : ∀ (nn9 : Nat) (k : Nat) (hk : k ≤ 256) (hn9 : 256 - k < nn9) (H : Heap) (locs : List Loc) (hP : va_P D vwCl [(mo, .inr (8, [.int (nI th), .ref ra, .ref ca, .ref ha, .int (nI kp), .ref ba, .int (nI hd), .ref wa])), (ba, .inl (kb, 256, .inl (aB bf))), (ta, .inl (kt, 256, .inl (aB (spk bf i)))), (q38, .inl (cA38, 256, .inl (aB (fil (wd (spk bf i) i) (fun _ => false) k))))] H) (hD : va_D A [(mo, .inr (8, [.int (nI th), .ref ra, .ref ca, .ref ha, .int (nI kp), .ref ba, .int (nI hd), .ref wa])), (ba, .inl (kb, 256, .inl (aB bf))), (ta, .inl (kt, 256, .inl (aB (spk bf i)))), (q38, .inl (cA38, 256, .inl (aB (fil (wd (spk bf i) i) (fun _ => false) k))))]) (hS : va_S A s.heap H locs) (ls : Array Slot) (hl : lv_has ls 6 [(0, .ref mo), (1, .int (nI n)), (2, .ref ta), (3, .int (nI i)), (4, .ref q38), (5, .int (nI k))]), W p l e (headSpec wsX6_span (rm_c_X6_span bf n)).room s m args below meth c H locs ((1 + rkk bf i) + 1) ((256 * (1 + rkk bf i)) + 256) (MQ below (q_c_X6_span D s.heap.size mo ra ca ha ba wa kp hd kb th bf n) args s (1 + rkk bf n) (256 * (1 + rkk bf n)) A) (F0 m 45 ls []) := by
              intro nn9
              induction nn9 with
              | zero => intro k hk hn9; exact absurd hn9 (Nat.not_lt_zero _)
              | succ nn9 ih_45 =>
                intro k hk hn9 H locs hP hD hS ls hl
                refine lv_iload hx hb dX6_span_45 (lv_at hl 5 rfl) ?_
                refine lv_sipush (v := nI 256) hx hb dX6_span_47 zks_256 ?_
                refine z_cge (tgt := 87) hx hb (by omega) (by omega) dX6_span_50 (by decide) (fun c_50 => ?_) (fun c_50 => ?_)
                · have hk9 : k = 256 := by omega
                  rw [hk9] at hP hD
                  have hP := z_recell (k := 3) (g := wd (spk bf i) i) hP rfl (fun j hj => fil_at (by omega))
                  have hD := z_reD (k := 3) (g := wd (spk bf i) i) hD rfl
                  have hP : va_P D vwCl [(mo, .inr (8, [.int (nI th), .ref ra, .ref ca, .ref ha, .int (nI kp), .ref ba, .int (nI hd), .ref wa])), (ba, .inl (kb, 256, .inl (aB bf))), (ta, .inl (kt, 256, .inl (aB (spk bf i)))), (q38, .inl (cA38, 256, .inl (aB (wd (spk bf i) i))))] H := hP
                  have hD : va_D A [(mo, .inr (8, [.int (nI th), .ref ra, .ref ca, .ref ha, .int (nI kp), .ref ba, .int (nI hd), .ref wa])), (ba, .inl (kb, 256, .inl (aB bf))), (ta, .inl (kt, 256, .inl (aB (spk bf i)))), (q38, .inl (cA38, 256, .inl (aB (wd (spk bf i) i))))] := hD
                  refine lv_aload hx hb dX6_span_87 (lv_at hl 4 rfl) ?_
                  refine lv_astore_n (lv' := [(2, .ref q38), (0, .ref mo), (1, .int (nI n)), (3, .int (nI i)), (4, .ref q38), (5, .int (nI k))]) hx hb dX6_span_89 rfl hl (by decide) rfl (fun ls hl => ?_)
                  refine lv_iinc (v := (nI (i + 1))) (lv' := [(3, .int (nI (i + 1))), (2, .ref q38), (0, .ref mo), (1, .int (nI n)), (4, .ref q38), (5, .int (nI k))]) hx hb dX6_span_90 hl (k := 3) rfl (z_inc i 1) (by decide) rfl (fun ls hl => ?_)
                  refine lv_goto (tgt := 12) hx hb dX6_span_93 (by decide) ?_
                  have hP : va_P D vwCl [(mo, .inr (8, [.int (nI th), .ref ra, .ref ca, .ref ha, .int (nI kp), .ref ba, .int (nI hd), .ref wa])), (ba, .inl (kb, 256, .inl (aB bf))), (ta, .inl (kt, 256, .inl (aB (spk bf i)))), (q38, .inl (cA38, 256, .inl (aB (spk bf (i + 1)))))] H := Eq.mp (congrArg (fun z9 => va_P D vwCl [(mo, .inr (8, [.int (nI th), .ref ra, .ref ca, .ref ha, .int (nI kp), .ref ba, .int (nI hd), .ref wa])), (ba, .inl (kb, 256, .inl (aB bf))), (ta, .inl (kt, 256, .inl (aB (spk bf i)))), (q38, .inl (cA38, 256, .inl (aB z9)))] H) ((show wd (spk bf i) i = spk bf (i + 1) from eS))) hP
                  have hD : va_D A [(mo, .inr (8, [.int (nI th), .ref ra, .ref ca, .ref ha, .int (nI kp), .ref ba, .int (nI hd), .ref wa])), (ba, .inl (kb, 256, .inl (aB bf))), (ta, .inl (kt, 256, .inl (aB (spk bf i)))), (q38, .inl (cA38, 256, .inl (aB (spk bf (i + 1)))))] := Eq.mp (congrArg (fun z9 => va_D A [(mo, .inr (8, [.int (nI th), .ref ra, .ref ca, .ref ha, .int (nI kp), .ref ba, .int (nI hd), .ref wa])), (ba, .inl (kb, 256, .inl (aB bf))), (ta, .inl (kt, 256, .inl (aB (spk bf i)))), (q38, .inl (cA38, 256, .inl (aB z9)))]) ((show wd (spk bf i) i = spk bf (i + 1) from eS))) hD
                  refine W.widen (k := (1 + rkk bf (i + 1))) (n := (256 * (1 + rkk bf (i + 1)))) (by omega) (by omega) ?_
                  exact ih_12 (i + 1) q38 cA38 (by omega) (by first | exact hK | exact hK.sub [0, 2] rfl) (by omega) H locs (hP.sub [0, 1, 3] rfl) (hD.sub [0, 1, 3] (by decide) rfl) hS ls (lv_sub hl [2, 3, 1, 0] rfl)
                · refine lv_aload hx hb dX6_span_53 (lv_at hl 4 rfl) ?_
                  refine lv_iload hx hb dX6_span_55 (lv_at hl 5 rfl) ?_
                  refine lv_aload_n hx hb dX6_span_57 rfl (lv_at hl 2 rfl) ?_
                  refine lv_iload hx hb dX6_span_58 (lv_at hl 5 rfl) ?_
                  refine z_zald hx hb hK hP 2 1 rfl rfl (by omega) (by decide) dX6_span_60 ?_
                  refine z_bne (tgt := 75) hx hb dX6_span_61 (by decide) (fun c_61 => ?_) (fun c_61 => ?_)
                  · have e8 : wd (spk bf i) i k = true := by simp [wd, c_61]
                    refine lv_iconst (v := nI 1) hx hb dX6_span_75 zki_1 ?_
                    refine lv_goto (tgt := 80) hx hb dX6_span_76 (by decide) ?_
                    refine zt (show nI 1 = bI true from rfl) ?_
                    refine z_zast hx hb hK hP hD hS 3 2 rfl rfl (by omega) (by decide) dX6_span_80 (fun H locs hP hD hS => ?_)
                    have hP : va_P D vwCl [(mo, .inr (8, [.int (nI th), .ref ra, .ref ca, .ref ha, .int (nI kp), .ref ba, .int (nI hd), .ref wa])), (ba, .inl (kb, 256, .inl (aB bf))), (ta, .inl (kt, 256, .inl (aB (spk bf i)))), (q38, .inl (cA38, 256, .inl (aB (va_up (fil (wd (spk bf i) i) (fun _ => false) k) k true))))] H := hP
                    have hD : va_D A [(mo, .inr (8, [.int (nI th), .ref ra, .ref ca, .ref ha, .int (nI kp), .ref ba, .int (nI hd), .ref wa])), (ba, .inl (kb, 256, .inl (aB bf))), (ta, .inl (kt, 256, .inl (aB (spk bf i)))), (q38, .inl (cA38, 256, .inl (aB (va_up (fil (wd (spk bf i) i) (fun _ => false) k) k true))))] := hD
                    refine lv_iinc (v := (nI (k + 1))) (lv' := [(5, .int (nI (k + 1))), (0, .ref mo), (1, .int (nI n)), (2, .ref ta), (3, .int (nI i)), (4, .ref q38)]) hx hb dX6_span_81 hl (k := 5) rfl (z_inc k 1) (by decide) rfl (fun ls hl => ?_)
                    refine lv_goto (tgt := 45) hx hb dX6_span_84 (by decide) ?_
                    have hP : va_P D vwCl [(mo, .inr (8, [.int (nI th), .ref ra, .ref ca, .ref ha, .int (nI kp), .ref ba, .int (nI hd), .ref wa])), (ba, .inl (kb, 256, .inl (aB bf))), (ta, .inl (kt, 256, .inl (aB (spk bf i)))), (q38, .inl (cA38, 256, .inl (aB (fil (wd (spk bf i) i) (fun _ => false) (k + 1)))))] H := Eq.mp (congrArg (fun z9 => va_P D vwCl [(mo, .inr (8, [.int (nI th), .ref ra, .ref ca, .ref ha, .int (nI kp), .ref ba, .int (nI hd), .ref wa])), (ba, .inl (kb, 256, .inl (aB bf))), (ta, .inl (kt, 256, .inl (aB (spk bf i)))), (q38, .inl (cA38, 256, .inl (aB z9)))] H) ((show va_up (fil (wd (spk bf i) i) (fun _ => false) k) k true = fil (wd (spk bf i) i) (fun _ => false) (k + 1) from by rw [← fil_s, e8]))) hP
                    have hD : va_D A [(mo, .inr (8, [.int (nI th), .ref ra, .ref ca, .ref ha, .int (nI kp), .ref ba, .int (nI hd), .ref wa])), (ba, .inl (kb, 256, .inl (aB bf))), (ta, .inl (kt, 256, .inl (aB (spk bf i)))), (q38, .inl (cA38, 256, .inl (aB (fil (wd (spk bf i) i) (fun _ => false) (k + 1)))))] := Eq.mp (congrArg (fun z9 => va_D A [(mo, .inr (8, [.int (nI th), .ref ra, .ref ca, .ref ha, .int (nI kp), .ref ba, .int (nI hd), .ref wa])), (ba, .inl (kb, 256, .inl (aB bf))), (ta, .inl (kt, 256, .inl (aB (spk bf i)))), (q38, .inl (cA38, 256, .inl (aB z9)))]) ((show va_up (fil (wd (spk bf i) i) (fun _ => false) k) k true = fil (wd (spk bf i) i) (fun _ => false) (k + 1) from by rw [← fil_s, e8]))) hD
                    exact ih_45 (k + 1) (by omega) (by omega) H locs hP hD hS ls (lv_sub hl [1, 2, 3, 4, 5, 0] rfl)
                  · refine lv_aload_n hx hb dX6_span_64 rfl (lv_at hl 2 rfl) ?_
                    refine lv_iload hx hb dX6_span_65 (lv_at hl 5 rfl) ?_
                    refine lv_iload_n hx hb dX6_span_67 rfl (lv_at hl 3 rfl) ?_
                    refine z_ci (va_runS (As := [.int (nI k), .int (nI i)]) (rest := [.ref ta, .int (nI k), .ref q38]) ⟨hx, hb, hml, hown, hts⟩ (c_X6_sumOf l D k i (by omega) (by omega)) (va_cwS 2 hts gX6_span_X6_sumOf rfl rfl rfl (by decide +kernel) ⟨Nat.le_of_ble_eq_true rfl, Nat.le_of_ble_eq_true rfl⟩) ⟨z_fb0, fun U hU hW => ⟨rfl, trivial⟩⟩ rfl rfl hl.1 rfl (lv_room (Nat.le_of_ble_eq_true rfl)) dX6_span_68 ⟨z_room (c := (1 + rkk bf n)) rfl (by omega), z_room (c := (256 * (1 + rkk bf n))) rfl (by omega)⟩) (fun r68 e68 => ?_)
                    subst e68
                    have hx68 : k ^^^ i < 256 := zx8 (by omega) (by omega)
                    refine z_zald hx hb hK hP 2 1 rfl rfl (by omega) (by decide) dX6_span_71 ?_
                    refine z_beq (tgt := 79) hx hb dX6_span_72 (by decide) (fun c_72 => ?_) (fun c_72 => ?_)
                    · have e8 : wd (spk bf i) i k = false := by simp [wd, c_61, c_72]
                      refine lv_iconst (v := nI 0) hx hb dX6_span_79 zki_0 ?_
                      refine zt (show nI 0 = bI false from rfl) ?_
                      refine z_zast hx hb hK hP hD hS 3 2 rfl rfl (by omega) (by decide) dX6_span_80 (fun H locs hP hD hS => ?_)
                      have hP : va_P D vwCl [(mo, .inr (8, [.int (nI th), .ref ra, .ref ca, .ref ha, .int (nI kp), .ref ba, .int (nI hd), .ref wa])), (ba, .inl (kb, 256, .inl (aB bf))), (ta, .inl (kt, 256, .inl (aB (spk bf i)))), (q38, .inl (cA38, 256, .inl (aB (va_up (fil (wd (spk bf i) i) (fun _ => false) k) k false))))] H := hP
                      have hD : va_D A [(mo, .inr (8, [.int (nI th), .ref ra, .ref ca, .ref ha, .int (nI kp), .ref ba, .int (nI hd), .ref wa])), (ba, .inl (kb, 256, .inl (aB bf))), (ta, .inl (kt, 256, .inl (aB (spk bf i)))), (q38, .inl (cA38, 256, .inl (aB (va_up (fil (wd (spk bf i) i) (fun _ => false) k) k false))))] := hD
                      refine lv_iinc (v := (nI (k + 1))) (lv' := [(5, .int (nI (k + 1))), (0, .ref mo), (1, .int (nI n)), (2, .ref ta), (3, .int (nI i)), (4, .ref q38)]) hx hb dX6_span_81 hl (k := 5) rfl (z_inc k 1) (by decide) rfl (fun ls hl => ?_)
                      refine lv_goto (tgt := 45) hx hb dX6_span_84 (by decide) ?_
                      have hP : va_P D vwCl [(mo, .inr (8, [.int (nI th), .ref ra, .ref ca, .ref ha, .int (nI kp), .ref ba, .int (nI hd), .ref wa])), (ba, .inl (kb, 256, .inl (aB bf))), (ta, .inl (kt, 256, .inl (aB (spk bf i)))), (q38, .inl (cA38, 256, .inl (aB (fil (wd (spk bf i) i) (fun _ => false) (k + 1)))))] H := Eq.mp (congrArg (fun z9 => va_P D vwCl [(mo, .inr (8, [.int (nI th), .ref ra, .ref ca, .ref ha, .int (nI kp), .ref ba, .int (nI hd), .ref wa])), (ba, .inl (kb, 256, .inl (aB bf))), (ta, .inl (kt, 256, .inl (aB (spk bf i)))), (q38, .inl (cA38, 256, .inl (aB z9)))] H) ((show va_up (fil (wd (spk bf i) i) (fun _ => false) k) k false = fil (wd (spk bf i) i) (fun _ => false) (k + 1) from by rw [← fil_s, e8]))) hP
                      have hD : va_D A [(mo, .inr (8, [.int (nI th), .ref ra, .ref ca, .ref ha, .int (nI kp), .ref ba, .int (nI hd), .ref wa])), (ba, .inl (kb, 256, .inl (aB bf))), (ta, .inl (kt, 256, .inl (aB (spk bf i)))), (q38, .inl (cA38, 256, .inl (aB (fil (wd (spk bf i) i) (fun _ => false) (k + 1)))))] := Eq.mp (congrArg (fun z9 => va_D A [(mo, .inr (8, [.int (nI th), .ref ra, .ref ca, .ref ha, .int (nI kp), .ref ba, .int (nI hd), .ref wa])), (ba, .inl (kb, 256, .inl (aB bf))), (ta, .inl (kt, 256, .inl (aB (spk bf i)))), (q38, .inl (cA38, 256, .inl (aB z9)))]) ((show va_up (fil (wd (spk bf i) i) (fun _ => false) k) k false = fil (wd (spk bf i) i) (fun _ => false) (k + 1) from by rw [← fil_s, e8]))) hD
                      exact ih_45 (k + 1) (by omega) (by omega) H locs hP hD hS ls (lv_sub hl [1, 2, 3, 4, 5, 0] rfl)
                    · have e8 : wd (spk bf i) i k = true := by simp [wd, c_72]
                      refine lv_iconst (v := nI 1) hx hb dX6_span_75 zki_1 ?_
                      refine lv_goto (tgt := 80) hx hb dX6_span_76 (by decide) ?_
                      refine zt (show nI 1 = bI true from rfl) ?_
                      refine z_zast hx hb hK hP hD hS 3 2 rfl rfl (by omega) (by decide) dX6_span_80 (fun H locs hP hD hS => ?_)
                      have hP : va_P D vwCl [(mo, .inr (8, [.int (nI th), .ref ra, .ref ca, .ref ha, .int (nI kp), .ref ba, .int (nI hd), .ref wa])), (ba, .inl (kb, 256, .inl (aB bf))), (ta, .inl (kt, 256, .inl (aB (spk bf i)))), (q38, .inl (cA38, 256, .inl (aB (va_up (fil (wd (spk bf i) i) (fun _ => false) k) k true))))] H := hP
                      have hD : va_D A [(mo, .inr (8, [.int (nI th), .ref ra, .ref ca, .ref ha, .int (nI kp), .ref ba, .int (nI hd), .ref wa])), (ba, .inl (kb, 256, .inl (aB bf))), (ta, .inl (kt, 256, .inl (aB (spk bf i)))), (q38, .inl (cA38, 256, .inl (aB (va_up (fil (wd (spk bf i) i) (fun _ => false) k) k true))))] := hD
                      refine lv_iinc (v := (nI (k + 1))) (lv' := [(5, .int (nI (k + 1))), (0, .ref mo), (1, .int (nI n)), (2, .ref ta), (3, .int (nI i)), (4, .ref q38)]) hx hb dX6_span_81 hl (k := 5) rfl (z_inc k 1) (by decide) rfl (fun ls hl => ?_)
                      refine lv_goto (tgt := 45) hx hb dX6_span_84 (by decide) ?_
                      have hP : va_P D vwCl [(mo, .inr (8, [.int (nI th), .ref ra, .ref ca, .ref ha, .int (nI kp), .ref ba, .int (nI hd), .ref wa])), (ba, .inl (kb, 256, .inl (aB bf))), (ta, .inl (kt, 256, .inl (aB (spk bf i)))), (q38, .inl (cA38, 256, .inl (aB (fil (wd (spk bf i) i) (fun _ => false) (k + 1)))))] H := Eq.mp (congrArg (fun z9 => va_P D vwCl [(mo, .inr (8, [.int (nI th), .ref ra, .ref ca, .ref ha, .int (nI kp), .ref ba, .int (nI hd), .ref wa])), (ba, .inl (kb, 256, .inl (aB bf))), (ta, .inl (kt, 256, .inl (aB (spk bf i)))), (q38, .inl (cA38, 256, .inl (aB z9)))] H) ((show va_up (fil (wd (spk bf i) i) (fun _ => false) k) k true = fil (wd (spk bf i) i) (fun _ => false) (k + 1) from by rw [← fil_s, e8]))) hP
                      have hD : va_D A [(mo, .inr (8, [.int (nI th), .ref ra, .ref ca, .ref ha, .int (nI kp), .ref ba, .int (nI hd), .ref wa])), (ba, .inl (kb, 256, .inl (aB bf))), (ta, .inl (kt, 256, .inl (aB (spk bf i)))), (q38, .inl (cA38, 256, .inl (aB (fil (wd (spk bf i) i) (fun _ => false) (k + 1)))))] := Eq.mp (congrArg (fun z9 => va_D A [(mo, .inr (8, [.int (nI th), .ref ra, .ref ca, .ref ha, .int (nI kp), .ref ba, .int (nI hd), .ref wa])), (ba, .inl (kb, 256, .inl (aB bf))), (ta, .inl (kt, 256, .inl (aB (spk bf i)))), (q38, .inl (cA38, 256, .inl (aB z9)))]) ((show va_up (fil (wd (spk bf i) i) (fun _ => false) k) k true = fil (wd (spk bf i) i) (fun _ => false) (k + 1) from by rw [← fil_s, e8]))) hD
                      exact ih_45 (k + 1) (by omega) (by omega) H locs hP hD hS ls (lv_sub hl [1, 2, 3, 4, 5, 0] rfl)
            have hP : va_P D vwCl [(mo, .inr (8, [.int (nI th), .ref ra, .ref ca, .ref ha, .int (nI kp), .ref ba, .int (nI hd), .ref wa])), (ba, .inl (kb, 256, .inl (aB bf))), (ta, .inl (kt, 256, .inl (aB (spk bf i)))), (q38, .inl (cA38, 256, .inl (aB (fil (wd (spk bf i) i) (fun _ => false) 0))))] H := Eq.mp (congrArg (fun z9 => va_P D vwCl [(mo, .inr (8, [.int (nI th), .ref ra, .ref ca, .ref ha, .int (nI kp), .ref ba, .int (nI hd), .ref wa])), (ba, .inl (kb, 256, .inl (aB bf))), (ta, .inl (kt, 256, .inl (aB (spk bf i)))), (q38, .inl (cA38, 256, .inl (aB z9)))] H) ((show (fun _ => false) = fil (wd (spk bf i) i) (fun _ => false) 0 from rfl))) hP
            have hD : va_D A [(mo, .inr (8, [.int (nI th), .ref ra, .ref ca, .ref ha, .int (nI kp), .ref ba, .int (nI hd), .ref wa])), (ba, .inl (kb, 256, .inl (aB bf))), (ta, .inl (kt, 256, .inl (aB (spk bf i)))), (q38, .inl (cA38, 256, .inl (aB (fil (wd (spk bf i) i) (fun _ => false) 0))))] := Eq.mp (congrArg (fun z9 => va_D A [(mo, .inr (8, [.int (nI th), .ref ra, .ref ca, .ref ha, .int (nI kp), .ref ba, .int (nI hd), .ref wa])), (ba, .inl (kb, 256, .inl (aB bf))), (ta, .inl (kt, 256, .inl (aB (spk bf i)))), (q38, .inl (cA38, 256, .inl (aB z9)))]) ((show (fun _ => false) = fil (wd (spk bf i) i) (fun _ => false) 0 from rfl))) hD
            exact cut_45 ((256 - 0) + 1) 0 (by omega) (Nat.lt_succ_self _) H locs hP hD hS ls (lv_sub hl [2, 3, 4, 5, 1, 0] rfl)
          · have eS : spk bf i = spk bf (i + 1) := by rw [spk, if_neg (fun q => by rw [c_29] at q; cases q.2)]
            have eR : rkk bf (i + 1) = rkk bf i := by rw [rkk, if_neg (fun q => by rw [c_29] at q; cases q.2)]
            refine lv_goto (tgt := 90) hx hb dX6_span_32 (by decide) ?_
            refine lv_iinc (v := (nI (i + 1))) (lv' := [(3, .int (nI (i + 1))), (0, .ref mo), (1, .int (nI n)), (2, .ref ta)]) hx hb dX6_span_90 hl (k := 3) rfl (z_inc i 1) (by decide) rfl (fun ls hl => ?_)
            refine lv_goto (tgt := 12) hx hb dX6_span_93 (by decide) ?_
            have hP : va_P D vwCl [(mo, .inr (8, [.int (nI th), .ref ra, .ref ca, .ref ha, .int (nI kp), .ref ba, .int (nI hd), .ref wa])), (ba, .inl (kb, 256, .inl (aB bf))), (ta, .inl (kt, 256, .inl (aB (spk bf (i + 1)))))] H := Eq.mp (congrArg (fun z9 => va_P D vwCl [(mo, .inr (8, [.int (nI th), .ref ra, .ref ca, .ref ha, .int (nI kp), .ref ba, .int (nI hd), .ref wa])), (ba, .inl (kb, 256, .inl (aB bf))), (ta, .inl (kt, 256, .inl (aB z9)))] H) ((show spk bf i = spk bf (i + 1) from eS))) hP
            have hD : va_D A [(mo, .inr (8, [.int (nI th), .ref ra, .ref ca, .ref ha, .int (nI kp), .ref ba, .int (nI hd), .ref wa])), (ba, .inl (kb, 256, .inl (aB bf))), (ta, .inl (kt, 256, .inl (aB (spk bf (i + 1)))))] := Eq.mp (congrArg (fun z9 => va_D A [(mo, .inr (8, [.int (nI th), .ref ra, .ref ca, .ref ha, .int (nI kp), .ref ba, .int (nI hd), .ref wa])), (ba, .inl (kb, 256, .inl (aB bf))), (ta, .inl (kt, 256, .inl (aB z9)))]) ((show spk bf i = spk bf (i + 1) from eS))) hD
            refine W.widen (k := (1 + rkk bf (i + 1))) (n := (256 * (1 + rkk bf (i + 1)))) (by omega) (by omega) ?_
            exact ih_12 (i + 1) ta kt (by omega) (by first | exact hK | exact hK.sub [0, 2] rfl) (by omega) H locs hP hD hS ls (lv_sub hl [1, 2, 3, 0] rfl)
  have hP : va_P D vwCl [(mo, .inr (8, [.int (nI th), .ref ra, .ref ca, .ref ha, .int (nI kp), .ref ba, .int (nI hd), .ref wa])), (ba, .inl (kb, 256, .inl (aB bf))), (q3, .inl (cA3, 256, .inl (aB (spk bf 0))))] H := Eq.mp (congrArg (fun z9 => va_P D vwCl [(mo, .inr (8, [.int (nI th), .ref ra, .ref ca, .ref ha, .int (nI kp), .ref ba, .int (nI hd), .ref wa])), (ba, .inl (kb, 256, .inl (aB bf))), (q3, .inl (cA3, 256, .inl (aB z9)))] H) ((show va_up (fun _ => false) 0 true = spk bf 0 from rfl))) hP
  have hD : va_D A [(mo, .inr (8, [.int (nI th), .ref ra, .ref ca, .ref ha, .int (nI kp), .ref ba, .int (nI hd), .ref wa])), (ba, .inl (kb, 256, .inl (aB bf))), (q3, .inl (cA3, 256, .inl (aB (spk bf 0))))] := Eq.mp (congrArg (fun z9 => va_D A [(mo, .inr (8, [.int (nI th), .ref ra, .ref ca, .ref ha, .int (nI kp), .ref ba, .int (nI hd), .ref wa])), (ba, .inl (kb, 256, .inl (aB bf))), (q3, .inl (cA3, 256, .inl (aB z9)))]) ((show va_up (fun _ => false) 0 true = spk bf 0 from rfl))) hD
  refine W.widen (k := (1 + rkk bf 0)) (n := (256 * (1 + rkk bf 0))) (Nat.le_refl _) (Nat.le_refl _) ?_
  exact cut_12 ((n - 0) + 1) 0 q3 cA3 (by omega) (hK) (Nat.lt_succ_self _) H locs hP hD hS ls (lv_sub hl [2, 3, 1, 0] rfl)
