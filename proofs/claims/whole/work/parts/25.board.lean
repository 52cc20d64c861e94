theorem i_le {a b : Int32} (h : b ≤ a) : b ≤ a := h
theorem i_nle {a b : Int32} (h : ¬ b ≤ a) : ¬ b ≤ a := h
theorem isp_t {b k : Nat} (h1 : b.testBit (4 * (k / 64) + k / 16 % 4) = true) (h2 : k / 4 % 4 < k / 64) (h3 : k % 4 < k / 16 % 4) : isp b k = true := by unfold isp; rw [h1, decide_eq_true h2, decide_eq_true h3]; rfl
theorem isp_f1 {b k : Nat} (h1 : b.testBit (4 * (k / 64) + k / 16 % 4) = false) : isp b k = false := by unfold isp; rw [h1]; rfl
theorem isp_f2 {b k : Nat} (h2 : k / 64 ≤ k / 4 % 4) : isp b k = false := by unfold isp; rw [decide_eq_false (Nat.not_lt.mpr h2)]; simp
theorem isp_f3 {b k : Nat} (h3 : k / 16 % 4 ≤ k % 4) : isp b k = false := by unfold isp; rw [decide_eq_false (Nat.not_lt.mpr h3)]; simp
theorem bpk_up {b i n k : Nat} (h : bpk b i = some n) (hk : i ≤ k) : bpk b k = some n := by
  induction k with
  | zero => have : i = 0 := by omega
            subst this; exact h
  | succ k ih =>
    rcases Nat.lt_or_ge i (k + 1) with q | q
    · have := ih (by omega)
      rw [bpk, this]; rfl
    · have : i = k + 1 := by omega
      subst this; exact h
/-- how many bits, as Integer.bitCount says it -/
def bcf (n : Nat) : Nat := (fun i1 => (fun i2 => (fun i3 => (fun i4 => (i4 + i4 / 2 ^ 16) &&& 63) (i3 + i3 / 2 ^ 8)) ((i2 + i2 / 2 ^ 4) &&& 252645135)) ((i1 &&& 858993459) + (i1 / 2 ^ 2 &&& 858993459))) (n - (n / 2 ^ 1 &&& 1431655765))
section ZU
variable {p : Program} {l : Launch} {e : Env} {R : Room} {s : State} {m : MethodId} {args : Array Value} {below : List Frame} {meth : Method} {c : Code} {H : Heap} {locs : List Loc} {cells slots : Nat} {Q : State → Prop} {cc : ByteArray} {pc : Nat} {ls : Array Slot} {rest : List Value}
theorem z_usN : ∀ n, n < 32 → (((nI n).toUInt32 &&& Int32.toUInt32 31).toBitVec % 32).toNat = n := by decide +kernel
theorem z_ushr (hx : p.tables.exec = Jvm.exec) (hb : c.code = cc) {a b : Nat} (hk : b < 32) (h : a < 4294967296) (hdg : decode cc pc = .ok (.iushr, 1)) (k : W p l e R s m args below meth c H locs cells slots Q (F0 m (pc + 1) ls (.int (nI (a / 2 ^ b)) :: rest))) : W p l e R s m args below meth c H locs cells slots Q (F0 m pc ls (.int (nI b) :: .int (nI a) :: rest)) := lv_iushr hx hb hdg (pk_ushrN h _ b (z_usN b hk)) k
end ZU
theorem nX1_isHeads_inX1 : ∀ w ∈ u_ws RX1 TX1 2, w ∈ wsX1_isHeads := by decide +kernel
theorem nX1_turnCoin_inX1 : ∀ w ∈ u_ws RX1 TX1 2, w ∈ wsX1_turnCoin := by decide +kernel
theorem nX1_turnAllTails_inX1 : ∀ w ∈ u_ws RX1 TX1 2, w ∈ wsX1_turnAllTails := by decide +kernel
theorem nX1_headsAfter_inX1 : ∀ w ∈ u_ws RX1 TX1 2, w ∈ wsX1_headsAfter := by decide +kernel
theorem nX1_makePlay_inX1 : ∀ w ∈ u_ws RX1 TX1 2, w ∈ wsX1_makePlay := by decide +kernel
theorem nX1_worthByTrying_inX1 : ∀ w ∈ u_ws RX1 TX1 2, w ∈ wsX1_worthByTrying := by decide +kernel
theorem nX1_mixedInto_inX1 : ∀ w ∈ u_ws RX1 TX1 2, w ∈ wsX1_mixedInto := by decide +kernel
abbrev rm_c_X1_isPlace : Room := { frames := 0, cells := 0, slots := 0, locals := 0 }
abbrev q_c_X1_isPlace (D : va_G) (x : Int32) (y : Int32) : Array Value → State → Outcome → State → Prop := vp_Si (fun r => r = (bI (inN 4 x && inN 4 y)))
set_option maxHeartbeats 4000000 in
set_option maxRecDepth 100000 in
theorem c_X1_isPlace (l : Launch) (D : va_G) (x : Int32) (y : Int32) : Met l yX1_isPlace wsX1_isPlace rm_c_X1_isPlace (va_Pc [.int x, .int y] (fun _ => True)) (q_c_X1_isPlace D x y) 0 0 (fun _ => False) := by
  refine Met.ofW (cc := cX1_isPlace) (maxL := 2) (ret := (some .boolean)) (by decide) rfl ?_
  intro p e s m args below meth c s₁ B hml hv
  obtain ⟨hargs, -⟩ := hv
  have hx := B.exec
  have hb := B.bytes
  have hr := B.returns
  have hts := atoms_spec (ws := wsX1_isPlace) B.pre
  have hown : s.vm.findClass RX1 = some m.cls := findClass_of_methodNamed B.named
  have hlocks := B.notSynchronized
  have hl := lv_entry ([.int x, .int y]) (n := 2) (Nat.le_of_ble_eq_true rfl)
  refine W.eq (g2 := F0 m 0 (lg_sl ([.int x, .int y]) ++ List.replicate (2 - (lg_sl ([.int x, .int y])).length) Slot.unset).toArray []) (by rw [hargs]; exact lg_entry_eq _ _ _) ?_
  generalize (lg_sl ([.int x, .int y]) ++ List.replicate (2 - (lg_sl ([.int x, .int y])).length) Slot.unset).toArray = ls at hl ⊢
  have hl : lv_has ls 2 [(0, .int x), (1, .int y)] := hl
  refine lv_iload_n hx hb dX1_isPlace_0 rfl (lv_at hl 0 rfl) ?_
  refine lv_if_lt (tgt := 22) hx hb dX1_isPlace_1 (by decide) (fun c_1 => ?_) (fun c_1 => ?_)
  · refine lv_iconst (v := nI 0) hx hb dX1_isPlace_22 zki_0 ?_
    refine zt (show nI 0 = bI false from rfl) ?_
    exact W.zret (ty := .boolean) hx hb hr (z_narB _) (fun t ht _ => ⟨_, rfl, (congrArg bI (by first | (rw [inN_f (Or.inl c_1)]; rfl) | (rw [inN_f (x := x) (n := 4) (Or.inr (i_le c_6))]; rfl) | (rw [inN_f (x := y) (n := 4) (Or.inl c_10), Bool.and_false]) | (rw [inN_f (x := y) (n := 4) (Or.inr (i_le c_15)), Bool.and_false]))), ht⟩) (fun _ h => nomatch h) dX1_isPlace_23
  · refine lv_iload_n hx hb dX1_isPlace_4 rfl (lv_at hl 0 rfl) ?_
    refine lv_iconst (v := nI 4) hx hb dX1_isPlace_5 zki_4 ?_
    refine lv_icmp_ge (tgt := 22) hx hb dX1_isPlace_6 (by decide) (fun c_6 => ?_) (fun c_6 => ?_)
    · refine lv_iconst (v := nI 0) hx hb dX1_isPlace_22 zki_0 ?_
      refine zt (show nI 0 = bI false from rfl) ?_
      exact W.zret (ty := .boolean) hx hb hr (z_narB _) (fun t ht _ => ⟨_, rfl, (congrArg bI (by first | (rw [inN_f (Or.inl c_1)]; rfl) | (rw [inN_f (x := x) (n := 4) (Or.inr (i_le c_6))]; rfl) | (rw [inN_f (x := y) (n := 4) (Or.inl c_10), Bool.and_false]) | (rw [inN_f (x := y) (n := 4) (Or.inr (i_le c_15)), Bool.and_false]))), ht⟩) (fun _ h => nomatch h) dX1_isPlace_23
    · refine lv_iload_n hx hb dX1_isPlace_9 rfl (lv_at hl 1 rfl) ?_
      refine lv_if_lt (tgt := 22) hx hb dX1_isPlace_10 (by decide) (fun c_10 => ?_) (fun c_10 => ?_)
      · refine lv_iconst (v := nI 0) hx hb dX1_isPlace_22 zki_0 ?_
        refine zt (show nI 0 = bI false from rfl) ?_
        exact W.zret (ty := .boolean) hx hb hr (z_narB _) (fun t ht _ => ⟨_, rfl, (congrArg bI (by first | (rw [inN_f (Or.inl c_1)]; rfl) | (rw [inN_f (x := x) (n := 4) (Or.inr (i_le c_6))]; rfl) | (rw [inN_f (x := y) (n := 4) (Or.inl c_10), Bool.and_false]) | (rw [inN_f (x := y) (n := 4) (Or.inr (i_le c_15)), Bool.and_false]))), ht⟩) (fun _ h => nomatch h) dX1_isPlace_23
      · refine lv_iload_n hx hb dX1_isPlace_13 rfl (lv_at hl 1 rfl) ?_
        refine lv_iconst (v := nI 4) hx hb dX1_isPlace_14 zki_4 ?_
        refine lv_icmp_ge (tgt := 22) hx hb dX1_isPlace_15 (by decide) (fun c_15 => ?_) (fun c_15 => ?_)
        · refine lv_iconst (v := nI 0) hx hb dX1_isPlace_22 zki_0 ?_
          refine zt (show nI 0 = bI false from rfl) ?_
          exact W.zret (ty := .boolean) hx hb hr (z_narB _) (fun t ht _ => ⟨_, rfl, (congrArg bI (by first | (rw [inN_f (Or.inl c_1)]; rfl) | (rw [inN_f (x := x) (n := 4) (Or.inr (i_le c_6))]; rfl) | (rw [inN_f (x := y) (n := 4) (Or.inl c_10), Bool.and_false]) | (rw [inN_f (x := y) (n := 4) (Or.inr (i_le c_15)), Bool.and_false]))), ht⟩) (fun _ h => nomatch h) dX1_isPlace_23
        · refine lv_iconst (v := nI 1) hx hb dX1_isPlace_18 zki_1 ?_
          refine lv_goto (tgt := 23) hx hb dX1_isPlace_19 (by decide) ?_
          refine zt (show nI 1 = bI true from rfl) ?_
          exact W.zret (ty := .boolean) hx hb hr (z_narB _) (fun t ht _ => ⟨_, rfl, (congrArg bI (by rw [inN_t c_1 (i_nle c_6), inN_t c_10 (i_nle c_15)]; rfl)), ht⟩) (fun _ h => nomatch h) dX1_isPlace_23
abbrev rm_c_X1_codeOf : Room := { frames := 0, cells := 0, slots := 0, locals := 0 }
abbrev q_c_X1_codeOf (D : va_G) (x : Nat) (y : Nat) (u : Nat) (v : Nat) : Array Value → State → Outcome → State → Prop := vp_Si (fun r => r = (nI (64 * x + 16 * y + 4 * u + v)))
set_option maxHeartbeats 4000000 in
set_option maxRecDepth 100000 in
theorem c_X1_codeOf (l : Launch) (D : va_G) (x : Nat) (y : Nat) (u : Nat) (v : Nat) : Met l yX1_codeOf wsX1_codeOf rm_c_X1_codeOf (va_Pc [.int (nI x), .int (nI y), .int (nI u), .int (nI v)] (fun _ => True)) (q_c_X1_codeOf D x y u v) 0 0 (fun _ => False) := by
  refine Met.ofW (cc := cX1_codeOf) (maxL := 4) (ret := (some .int)) (by decide) rfl ?_
  intro p e s m args below meth c s₁ B hml hv
  obtain ⟨hargs, -⟩ := hv
  have hx := B.exec
  have hb := B.bytes
  have hr := B.returns
  have hts := atoms_spec (ws := wsX1_codeOf) B.pre
  have hown : s.vm.findClass RX1 = some m.cls := findClass_of_methodNamed B.named
  have hlocks := B.notSynchronized
  have hl := lv_entry ([.int (nI x), .int (nI y), .int (nI u), .int (nI v)]) (n := 4) (Nat.le_of_ble_eq_true rfl)
  refine W.eq (g2 := F0 m 0 (lg_sl ([.int (nI x), .int (nI y), .int (nI u), .int (nI v)]) ++ List.replicate (4 - (lg_sl ([.int (nI x), .int (nI y), .int (nI u), .int (nI v)])).length) Slot.unset).toArray []) (by rw [hargs]; exact lg_entry_eq _ _ _) ?_
  generalize (lg_sl ([.int (nI x), .int (nI y), .int (nI u), .int (nI v)]) ++ List.replicate (4 - (lg_sl ([.int (nI x), .int (nI y), .int (nI u), .int (nI v)])).length) Slot.unset).toArray = ls at hl ⊢
  have hl : lv_has ls 4 [(0, .int (nI x)), (1, .int (nI y)), (2, .int (nI u)), (3, .int (nI v))] := hl
  refine lv_bipush (v := nI 64) hx hb dX1_codeOf_0 zkb_64 ?_
  refine lv_iload_n hx hb dX1_codeOf_2 rfl (lv_at hl 0 rfl) ?_
  refine z_mul hx hb dX1_codeOf_3 ?_
  refine lv_bipush (v := nI 16) hx hb dX1_codeOf_4 zkb_16 ?_
  refine lv_iload_n hx hb dX1_codeOf_6 rfl (lv_at hl 1 rfl) ?_
  refine z_mul hx hb dX1_codeOf_7 ?_
  refine z_add hx hb dX1_codeOf_8 ?_
  refine lv_iconst (v := nI 4) hx hb dX1_codeOf_9 zki_4 ?_
  refine lv_iload_n hx hb dX1_codeOf_10 rfl (lv_at hl 2 rfl) ?_
  refine z_mul hx hb dX1_codeOf_11 ?_
  refine z_add hx hb dX1_codeOf_12 ?_
  refine lv_iload_n hx hb dX1_codeOf_13 rfl (lv_at hl 3 rfl) ?_
  refine z_add hx hb dX1_codeOf_14 ?_
  exact W.iret hx hb hr (fun t ht _ => ⟨_, rfl, (rfl), ht⟩) (fun _ h => nomatch h) dX1_codeOf_15
abbrev rm_c_X1_bitOf : Room := { frames := 0, cells := 0, slots := 0, locals := 0 }
abbrev q_c_X1_bitOf (D : va_G) (x : Nat) (y : Nat) : Array Value → State → Outcome → State → Prop := vp_Si (fun r => r = (nI (1 * 2 ^ (4 * x + y))))
set_option maxHeartbeats 4000000 in
set_option maxRecDepth 100000 in
theorem c_X1_bitOf (l : Launch) (D : va_G) (x : Nat) (y : Nat) (hx4 : x < 4) (hy4 : y < 4) : Met l yX1_bitOf wsX1_bitOf rm_c_X1_bitOf (va_Pc [.int (nI x), .int (nI y)] (fun _ => True)) (q_c_X1_bitOf D x y) 0 0 (fun _ => False) := by
  refine Met.ofW (cc := cX1_bitOf) (maxL := 2) (ret := (some .int)) (by decide) rfl ?_
  intro p e s m args below meth c s₁ B hml hv
  obtain ⟨hargs, -⟩ := hv
  have hx := B.exec
  have hb := B.bytes
  have hr := B.returns
  have hts := atoms_spec (ws := wsX1_bitOf) B.pre
  have hown : s.vm.findClass RX1 = some m.cls := findClass_of_methodNamed B.named
  have hlocks := B.notSynchronized
  have hl := lv_entry ([.int (nI x), .int (nI y)]) (n := 2) (Nat.le_of_ble_eq_true rfl)
  refine W.eq (g2 := F0 m 0 (lg_sl ([.int (nI x), .int (nI y)]) ++ List.replicate (2 - (lg_sl ([.int (nI x), .int (nI y)])).length) Slot.unset).toArray []) (by rw [hargs]; exact lg_entry_eq _ _ _) ?_
  generalize (lg_sl ([.int (nI x), .int (nI y)]) ++ List.replicate (2 - (lg_sl ([.int (nI x), .int (nI y)])).length) Slot.unset).toArray = ls at hl ⊢
  have hl : lv_has ls 2 [(0, .int (nI x)), (1, .int (nI y))] := hl
  refine lv_iconst (v := nI 1) hx hb dX1_bitOf_0 zki_1 ?_
  refine lv_iconst (v := nI 4) hx hb dX1_bitOf_1 zki_4 ?_
  refine lv_iload_n hx hb dX1_bitOf_2 rfl (lv_at hl 0 rfl) ?_
  refine z_mul hx hb dX1_bitOf_3 ?_
  refine lv_iload_n hx hb dX1_bitOf_4 rfl (lv_at hl 1 rfl) ?_
  refine z_add hx hb dX1_bitOf_5 ?_
  refine z_shl hx hb (by omega) (by have := pow_lt16 (k := 4 * x + y) (by omega); omega) dX1_bitOf_6 ?_
  exact W.iret hx hb hr (fun t ht _ => ⟨_, rfl, (rfl), ht⟩) (fun _ h => nomatch h) dX1_bitOf_7
abbrev rm_c_X1_isHeads : Room := { frames := 1, cells := 0, slots := 0, locals := 21 }
abbrev q_c_X1_isHeads (D : va_G) (bd : Nat) (bdS : Nat) (hd : Nat) (x : Nat) (y : Nat) : Array Value → State → Outcome → State → Prop := vp_Si (fun r => r = (bI (hd.testBit (4 * x + y))))
set_option maxHeartbeats 4000000 in
set_option maxRecDepth 100000 in
theorem c_X1_isHeads (l : Launch) (D : va_G) (bd : Nat) (bdS : Nat) (hd : Nat) (x : Nat) (y : Nat) (hx4 : x < 4) (hy4 : y < 4) (hhd : hd < 65536) : Met l yX1_isHeads wsX1_isHeads rm_c_X1_isHeads (va_Pc [.ref bd, .int (nI x), .int (nI y)] (fun U => va_P D vwCl [(bd, .inr (3, [.ref bdS, .int (nI hd)]))] U.heap ∧ va_K D vwCl [] U)) (q_c_X1_isHeads D bd bdS hd x y) 0 0 (fun _ => False) := by
  refine Met.ofW (cc := cX1_isHeads) (maxL := 3) (ret := (some .boolean)) (by decide) rfl ?_
  intro p e s m args below meth c s₁ B hml hv
  obtain ⟨hargs, hP, hK⟩ := hv
  have hx := B.exec
  have hb := B.bytes
  have hr := B.returns
  have hts := atoms_spec (ws := wsX1_isHeads) B.pre
  have hown : s.vm.findClass RX1 = some m.cls := findClass_of_methodNamed B.named
  have hlocks := B.notSynchronized
  have hl := lv_entry ([.ref bd, .int (nI x), .int (nI y)]) (n := 3) (Nat.le_of_ble_eq_true rfl)
  refine W.eq (g2 := F0 m 0 (lg_sl ([.ref bd, .int (nI x), .int (nI y)]) ++ List.replicate (3 - (lg_sl ([.ref bd, .int (nI x), .int (nI y)])).length) Slot.unset).toArray []) (by rw [hargs]; exact lg_entry_eq _ _ _) ?_
  generalize (lg_sl ([.ref bd, .int (nI x), .int (nI y)]) ++ List.replicate (3 - (lg_sl ([.ref bd, .int (nI x), .int (nI y)])).length) Slot.unset).toArray = ls at hl ⊢
  have hl : lv_has ls 3 [(0, .ref bd), (1, .int (nI x)), (2, .int (nI y))] := hl
  refine lv_aload_n hx hb dX1_isHeads_0 rfl (lv_at hl 0 rfl) ?_
  refine va_get (D := D) (ci := 3) (v := .int (nI hd)) (C := RX1) (T := TX1) (N := 2) hx hb hts nX1_isHeads_inX1 hown hK hP 0 rfl rfl 1 (by decide) (hts (.fieldLink RX1 18 "Gamefield$Board" "heads" "I") (by decide +kernel)) (fun _ h9 => h9) rfl dX1_isHeads_1 ?_
  refine lv_iload_n hx hb dX1_isHeads_4 rfl (lv_at hl 1 rfl) ?_
  refine lv_iload_n hx hb dX1_isHeads_5 rfl (lv_at hl 2 rfl) ?_
  refine z_ci (va_runS (As := [.int (nI x), .int (nI y)]) (rest := [.int (nI hd)]) ⟨hx, hb, hml, hown, hts⟩ (c_X1_bitOf l D x y (by omega) (by omega)) (va_cwS 2 hts gX1_isHeads_X1_bitOf rfl rfl rfl (by decide +kernel) ⟨Nat.le_of_ble_eq_true rfl, Nat.le_of_ble_eq_true rfl⟩) ⟨z_fb0, fun U hU hW => ⟨rfl, trivial⟩⟩ rfl rfl hl.1 rfl (lv_room (Nat.le_of_ble_eq_true rfl)) dX1_isHeads_6 ⟨Nat.le_of_ble_eq_true rfl, Nat.le_of_ble_eq_true rfl⟩) (fun r6 e6 => ?_)
  subst e6
  refine z_and hx hb dX1_isHeads_9 ?_
  have hb10 : hd &&& 1 * 2 ^ (4 * x + y) < 65536 := Nat.lt_of_le_of_lt Nat.and_le_left hhd
  refine z_feq (tgt := 17) hx hb (by omega) dX1_isHeads_10 (by decide) (fun c_10 => ?_) (fun c_10 => ?_)
  · refine lv_iconst (v := nI 0) hx hb dX1_isHeads_17 zki_0 ?_
    refine zt (show nI 0 = bI false from rfl) ?_
    exact W.zret (ty := .boolean) hx hb hr (z_narB _) (fun t ht _ => ⟨_, rfl, (congrArg bI ((bitp_0 _ _).mp c_10).symm), ht⟩) (fun _ h => nomatch h) dX1_isHeads_18
  · refine lv_iconst (v := nI 1) hx hb dX1_isHeads_13 zki_1 ?_
    refine lv_goto (tgt := 18) hx hb dX1_isHeads_14 (by decide) ?_
    refine zt (show nI 1 = bI true from rfl) ?_
    exact W.zret (ty := .boolean) hx hb hr (z_narB _) (fun t ht _ => ⟨_, rfl, (congrArg bI ((bitp_p _ _).mp c_10).symm), ht⟩) (fun _ h => nomatch h) dX1_isHeads_18
abbrev rm_c_X1_turnCoin : Room := { frames := 1, cells := 0, slots := 0, locals := 21 }
abbrev q_c_X1_turnCoin (D : va_G) (sz : Nat) (bd : Nat) (bdS : Nat) (hd : Nat) (x : Nat) (y : Nat) : Array Value → State → Outcome → State → Prop := va_Qv (fun (_ : Unit) => True) (fun (_ : Unit) t => va_P D vwCl [(bd, .inr (3, [.ref bdS, .int (nI (hd ^^^ 1 * 2 ^ (4 * x + y)))]))] t.heap ∧ va_K D vwCl [] t ∧ va_D (va_A [(bd, .inr (3, [.ref bdS, .int (nI hd)]))] sz) [(bd, .inr (3, [.ref bdS, .int (nI (hd ^^^ 1 * 2 ^ (4 * x + y)))]))]) (va_A [(bd, .inr (3, [.ref bdS, .int (nI hd)]))] sz)
set_option maxHeartbeats 4000000 in
set_option maxRecDepth 100000 in
theorem c_X1_turnCoin (l : Launch) (D : va_G) (sz : Nat) (bd : Nat) (bdS : Nat) (hd : Nat) (x : Nat) (y : Nat) (hx4 : x < 4) (hy4 : y < 4) : Met l yX1_turnCoin wsX1_turnCoin rm_c_X1_turnCoin (va_Pc [.ref bd, .int (nI x), .int (nI y)] (fun U => U.heap.size = sz ∧ va_P D vwCl [(bd, .inr (3, [.ref bdS, .int (nI hd)]))] U.heap ∧ va_K D vwCl [] U ∧ va_D (fun _ => True) [(bd, .inr (3, [.ref bdS, .int (nI hd)]))])) (q_c_X1_turnCoin D sz bd bdS hd x y) 0 0 (va_A [(bd, .inr (3, [.ref bdS, .int (nI hd)]))] sz) := by
  refine Met.ofW (cc := cX1_turnCoin) (maxL := 3) (ret := none) (by decide) rfl ?_
  intro p e s m args below meth c s₁ B hml hv
  obtain ⟨hargs, hsz, hP, hK, hD0⟩ := hv
  have hx := B.exec
  have hb := B.bytes
  have hr := B.returns
  have hts := atoms_spec (ws := wsX1_turnCoin) B.pre
  have hown : s.vm.findClass RX1 = some m.cls := findClass_of_methodNamed B.named
  have hlocks := B.notSynchronized
  subst hsz
  have hD := hD0.self (sz := s.heap.size)
  generalize hAe : va_A [(bd, .inr (3, [.ref bdS, .int (nI hd)]))] s.heap.size = A at hD ⊢
  have hA : ∀ q : Nat, s.heap.size ≤ q → A q := fun q h => by rw [← hAe]; exact Or.inr h
  have hS : va_S A s.heap s.heap [] := va_S.rf
  have hl := lv_entry ([.ref bd, .int (nI x), .int (nI y)]) (n := 3) (Nat.le_of_ble_eq_true rfl)
  refine W.eq (g2 := F0 m 0 (lg_sl ([.ref bd, .int (nI x), .int (nI y)]) ++ List.replicate (3 - (lg_sl ([.ref bd, .int (nI x), .int (nI y)])).length) Slot.unset).toArray []) (by rw [hargs]; exact lg_entry_eq _ _ _) ?_
  generalize (lg_sl ([.ref bd, .int (nI x), .int (nI y)]) ++ List.replicate (3 - (lg_sl ([.ref bd, .int (nI x), .int (nI y)])).length) Slot.unset).toArray = ls at hl ⊢
  have hl : lv_has ls 3 [(0, .ref bd), (1, .int (nI x)), (2, .int (nI y))] := hl
  refine lv_aload_n hx hb dX1_turnCoin_0 rfl (lv_at hl 0 rfl) ?_
  refine lv_dup hx hb dX1_turnCoin_1 rfl ?_
  refine va_get (D := D) (ci := 3) (v := .int (nI hd)) (C := RX1) (T := TX1) (N := 2) hx hb hts nX1_turnCoin_inX1 hown hK hP 0 rfl rfl 1 (by decide) (hts (.fieldLink RX1 18 "Gamefield$Board" "heads" "I") (by decide +kernel)) (fun _ h9 => h9) rfl dX1_turnCoin_2 ?_
  refine lv_iload_n hx hb dX1_turnCoin_5 rfl (lv_at hl 1 rfl) ?_
  refine lv_iload_n hx hb dX1_turnCoin_6 rfl (lv_at hl 2 rfl) ?_
  refine z_ci (va_runS (As := [.int (nI x), .int (nI y)]) (rest := [.int (nI hd), .ref bd]) ⟨hx, hb, hml, hown, hts⟩ (c_X1_bitOf l D x y (by omega) (by omega)) (va_cwS 2 hts gX1_turnCoin_X1_bitOf rfl rfl rfl (by decide +kernel) ⟨Nat.le_of_ble_eq_true rfl, Nat.le_of_ble_eq_true rfl⟩) ⟨z_fb0, fun U hU hW => ⟨rfl, trivial⟩⟩ rfl rfl hl.1 rfl (lv_room (Nat.le_of_ble_eq_true rfl)) dX1_turnCoin_7 ⟨Nat.le_of_ble_eq_true rfl, Nat.le_of_ble_eq_true rfl⟩) (fun r7 e7 => ?_)
  subst e7
  refine z_xor hx hb dX1_turnCoin_10 ?_
  refine va_put (D := D) (ci := 3) (v := .int (nI (hd ^^^ (1 * 2 ^ (4 * x + y))))) (ty := .int) (C := RX1) (T := TX1) (N := 2) hx hb hts nX1_turnCoin_inX1 tyX1 tyX1_ok nmX1 hown hK hP hD hS 0 rfl rfl 1 (by decide) (hts (.fieldLink RX1 18 "Gamefield$Board" "heads" "I") (by decide +kernel)) (fun _ h9 => h9) rfl (by decide +kernel) rfl rfl (Nat.le_of_ble_eq_true rfl) dX1_turnCoin_11 (fun H locs hP hD hS => ?_)
  have hP : va_P D vwCl [(bd, .inr (3, [.ref bdS, .int (nI (hd ^^^ (1 * 2 ^ (4 * x + y))))]))] H := hP
  have hD : va_D A [(bd, .inr (3, [.ref bdS, .int (nI (hd ^^^ (1 * 2 ^ (4 * x + y))))]))] := hD
  have hP9 := hP.sub (ws' := [(bd, .inr (3, [.ref bdS, .int (nI (hd ^^^ (1 * 2 ^ (4 * x + y))))]))]) [0] rfl
  have hD9 := hD.sub (ws' := [(bd, .inr (3, [.ref bdS, .int (nI (hd ^^^ (1 * 2 ^ (4 * x + y))))]))]) [0] (by decide) rfl
  have hK9 := hK.sub (tys' := []) [] rfl
  subst hAe
  refine W.widen (k := 0) (n := 0) (Nat.le_of_ble_eq_true rfl) (Nat.le_of_ble_eq_true rfl) ?_
  exact W.vret hx hb hr (fun t ht hW => ⟨⟨(), rfl, (trivial), by rw [ht]; exact hP9, va_K.moved hW.alike hK9, hD9⟩, hS.F ht⟩) hS.2.2 dX1_turnCoin_14
abbrev rm_c_J6_bitCount_0f7a4 : Room := { frames := 0, cells := 0, slots := 0, locals := 0 }
abbrev q_c_J6_bitCount_0f7a4 (D : va_G) (n : Nat) : Array Value → State → Outcome → State → Prop := vp_Si (fun r => r = (nI (bcf n)))
set_option maxHeartbeats 4000000 in
set_option maxRecDepth 100000 in
theorem c_J6_bitCount_0f7a4 (l : Launch) (D : va_G) (n : Nat) (hn : n < 65536) : Met l yJ6_bitCount_0f7a4 wsJ6_bitCount_0f7a4 rm_c_J6_bitCount_0f7a4 (va_Pc [.int (nI n)] (fun _ => True)) (q_c_J6_bitCount_0f7a4 D n) 0 0 (fun _ => False) := by
  refine Met.ofW (cc := cJ6_bitCount_0f7a4) (maxL := 1) (ret := (some .int)) (by decide) rfl ?_
  intro p e s m args below meth c s₁ B hml hv
  obtain ⟨hargs, -⟩ := hv
  have hx := B.exec
  have hb := B.bytes
  have hr := B.returns
  have hts := atoms_spec (ws := wsJ6_bitCount_0f7a4) B.pre
  have hown : s.vm.findClass RJ6 = some m.cls := findClass_of_methodNamed B.named
  have hlocks := B.notSynchronized
  have hl := lv_entry ([.int (nI n)]) (n := 1) (Nat.le_of_ble_eq_true rfl)
  refine W.eq (g2 := F0 m 0 (lg_sl ([.int (nI n)]) ++ List.replicate (1 - (lg_sl ([.int (nI n)])).length) Slot.unset).toArray []) (by rw [hargs]; exact lg_entry_eq _ _ _) ?_
  generalize (lg_sl ([.int (nI n)]) ++ List.replicate (1 - (lg_sl ([.int (nI n)])).length) Slot.unset).toArray = ls at hl ⊢
  have hl : lv_has ls 1 [(0, .int (nI n))] := hl
  refine lv_iload_n hx hb dJ6_bitCount_0f7a4_0 rfl (lv_at hl 0 rfl) ?_
  refine lv_iload_n hx hb dJ6_bitCount_0f7a4_1 rfl (lv_at hl 0 rfl) ?_
  refine lv_iconst (v := nI 1) hx hb dJ6_bitCount_0f7a4_2 zki_1 ?_
  refine z_ushr hx hb (by omega) (by omega) dJ6_bitCount_0f7a4_3 ?_
  refine lv_ldcw (v := 1431655765) hx hb hown (hts (.constant RJ6 265 (1431655765)) (by decide +kernel)) dJ6_bitCount_0f7a4_4 ?_
  refine zt (show (1431655765 : Int32) = nI 1431655765 from by decide +kernel) ?_
  refine z_and hx hb dJ6_bitCount_0f7a4_7 ?_
  have hb8 : (n / 2 ^ 1) &&& 1431655765 ≤ n := Nat.le_trans Nat.and_le_left (Nat.div_le_self _ _)
  refine z_sub hx hb (hb8) dJ6_bitCount_0f7a4_8 ?_
  refine lv_istore_n (lv' := [(0, .int (nI (n - ((n / 2 ^ 1) &&& 1431655765))))]) hx hb dJ6_bitCount_0f7a4_9 rfl hl (by decide) rfl (fun ls hl => ?_)
  have hq1 : n - ((n / 2 ^ 1) &&& 1431655765) < 65536 := by omega
  generalize hi1 : (n - ((n / 2 ^ 1) &&& 1431655765)) = i1 at hq1 hl
  refine lv_iload_n hx hb dJ6_bitCount_0f7a4_10 rfl (lv_at hl 0 rfl) ?_
  refine lv_ldcw (v := 858993459) hx hb hown (hts (.constant RJ6 266 (858993459)) (by decide +kernel)) dJ6_bitCount_0f7a4_11 ?_
  refine zt (show (858993459 : Int32) = nI 858993459 from by decide +kernel) ?_
  refine z_and hx hb dJ6_bitCount_0f7a4_14 ?_
  refine lv_iload_n hx hb dJ6_bitCount_0f7a4_15 rfl (lv_at hl 0 rfl) ?_
  refine lv_iconst (v := nI 2) hx hb dJ6_bitCount_0f7a4_16 zki_2 ?_
  refine z_ushr hx hb (by omega) (by omega) dJ6_bitCount_0f7a4_17 ?_
  refine lv_ldcw (v := 858993459) hx hb hown (hts (.constant RJ6 266 (858993459)) (by decide +kernel)) dJ6_bitCount_0f7a4_18 ?_
  refine zt (show (858993459 : Int32) = nI 858993459 from by decide +kernel) ?_
  refine z_and hx hb dJ6_bitCount_0f7a4_21 ?_
  refine z_add hx hb dJ6_bitCount_0f7a4_22 ?_
  refine lv_istore_n (lv' := [(0, .int (nI ((i1 &&& 858993459) + ((i1 / 2 ^ 2) &&& 858993459))))]) hx hb dJ6_bitCount_0f7a4_23 rfl hl (by decide) rfl (fun ls hl => ?_)
  have hq2 : (i1 &&& 858993459) + (i1 / 2 ^ 2 &&& 858993459) < 131072 := by
    have h1 : i1 &&& 858993459 ≤ i1 := Nat.and_le_left
    have h2 : i1 / 2 ^ 2 &&& 858993459 ≤ i1 / 2 ^ 2 := Nat.and_le_left
    omega
  generalize hi2 : ((i1 &&& 858993459) + ((i1 / 2 ^ 2) &&& 858993459)) = i2 at hq2 hl
  refine lv_iload_n hx hb dJ6_bitCount_0f7a4_24 rfl (lv_at hl 0 rfl) ?_
  refine lv_iload_n hx hb dJ6_bitCount_0f7a4_25 rfl (lv_at hl 0 rfl) ?_
  refine lv_iconst (v := nI 4) hx hb dJ6_bitCount_0f7a4_26 zki_4 ?_
  refine z_ushr hx hb (by omega) (by omega) dJ6_bitCount_0f7a4_27 ?_
  refine z_add hx hb dJ6_bitCount_0f7a4_28 ?_
  refine lv_ldcw (v := 252645135) hx hb hown (hts (.constant RJ6 267 (252645135)) (by decide +kernel)) dJ6_bitCount_0f7a4_29 ?_
  refine zt (show (252645135 : Int32) = nI 252645135 from by decide +kernel) ?_
  refine z_and hx hb dJ6_bitCount_0f7a4_32 ?_
  refine lv_istore_n (lv' := [(0, .int (nI ((i2 + (i2 / 2 ^ 4)) &&& 252645135)))]) hx hb dJ6_bitCount_0f7a4_33 rfl hl (by decide) rfl (fun ls hl => ?_)
  have hq3 : (i2 + i2 / 2 ^ 4) &&& 252645135 < 262144 := by
    have h1 : (i2 + i2 / 2 ^ 4) &&& 252645135 ≤ i2 + i2 / 2 ^ 4 := Nat.and_le_left
    omega
  generalize hi3 : ((i2 + (i2 / 2 ^ 4)) &&& 252645135) = i3 at hq3 hl
  refine lv_iload_n hx hb dJ6_bitCount_0f7a4_34 rfl (lv_at hl 0 rfl) ?_
  refine lv_iload_n hx hb dJ6_bitCount_0f7a4_35 rfl (lv_at hl 0 rfl) ?_
  refine lv_bipush (v := nI 8) hx hb dJ6_bitCount_0f7a4_36 zkb_8 ?_
  refine z_ushr hx hb (by omega) (by omega) dJ6_bitCount_0f7a4_38 ?_
  refine z_add hx hb dJ6_bitCount_0f7a4_39 ?_
  refine lv_istore_n (lv' := [(0, .int (nI (i3 + (i3 / 2 ^ 8))))]) hx hb dJ6_bitCount_0f7a4_40 rfl hl (by decide) rfl (fun ls hl => ?_)
  refine lv_iload_n hx hb dJ6_bitCount_0f7a4_41 rfl (lv_at hl 0 rfl) ?_
  refine lv_iload_n hx hb dJ6_bitCount_0f7a4_42 rfl (lv_at hl 0 rfl) ?_
  refine lv_bipush (v := nI 16) hx hb dJ6_bitCount_0f7a4_43 zkb_16 ?_
  refine z_ushr hx hb (by omega) (by omega) dJ6_bitCount_0f7a4_45 ?_
  refine z_add hx hb dJ6_bitCount_0f7a4_46 ?_
  refine lv_istore_n (lv' := [(0, .int (nI ((i3 + (i3 / 2 ^ 8)) + ((i3 + (i3 / 2 ^ 8)) / 2 ^ 16))))]) hx hb dJ6_bitCount_0f7a4_47 rfl hl (by decide) rfl (fun ls hl => ?_)
  refine lv_iload_n hx hb dJ6_bitCount_0f7a4_48 rfl (lv_at hl 0 rfl) ?_
  refine lv_bipush (v := nI 63) hx hb dJ6_bitCount_0f7a4_49 zkb_63 ?_
  refine z_and hx hb dJ6_bitCount_0f7a4_51 ?_
  exact W.iret hx hb hr (fun t ht _ => ⟨_, rfl, (by subst hi1 hi2 hi3; rfl), ht⟩) (fun _ h => nomatch h) dJ6_bitCount_0f7a4_52
abbrev rm_c_X1_turnAllTails : Room := { frames := 1, cells := 0, slots := 0, locals := 20 }
abbrev q_c_X1_turnAllTails (D : va_G) (sz : Nat) (bd : Nat) (bdS : Nat) (hd : Nat) : Array Value → State → Outcome → State → Prop := va_Qi (fun r (_ : Unit) => r = (nI (bcf hd))) (fun (_ : Unit) t => va_P D vwCl [(bd, .inr (3, [.ref bdS, .int (nI 0)]))] t.heap ∧ va_K D vwCl [] t ∧ va_D (va_A [(bd, .inr (3, [.ref bdS, .int (nI hd)]))] sz) [(bd, .inr (3, [.ref bdS, .int (nI 0)]))]) (va_A [(bd, .inr (3, [.ref bdS, .int (nI hd)]))] sz)
set_option maxHeartbeats 4000000 in
set_option maxRecDepth 100000 in
theorem c_X1_turnAllTails (l : Launch) (D : va_G) (sz : Nat) (bd : Nat) (bdS : Nat) (hd : Nat) (hhd : hd < 65536) : Met l yX1_turnAllTails wsX1_turnAllTails rm_c_X1_turnAllTails (va_Pc [.ref bd] (fun U => U.heap.size = sz ∧ va_P D vwCl [(bd, .inr (3, [.ref bdS, .int (nI hd)]))] U.heap ∧ va_K D vwCl [] U ∧ va_D (fun _ => True) [(bd, .inr (3, [.ref bdS, .int (nI hd)]))])) (q_c_X1_turnAllTails D sz bd bdS hd) 0 0 (va_A [(bd, .inr (3, [.ref bdS, .int (nI hd)]))] sz) := by
  refine Met.ofW (cc := cX1_turnAllTails) (maxL := 2) (ret := (some .int)) (by decide) rfl ?_
  intro p e s m args below meth c s₁ B hml hv
  obtain ⟨hargs, hsz, hP, hK, hD0⟩ := hv
  have hx := B.exec
  have hb := B.bytes
  have hr := B.returns
  have hts := atoms_spec (ws := wsX1_turnAllTails) B.pre
  have hown : s.vm.findClass RX1 = some m.cls := findClass_of_methodNamed B.named
  have hlocks := B.notSynchronized
  subst hsz
  have hD := hD0.self (sz := s.heap.size)
  generalize hAe : va_A [(bd, .inr (3, [.ref bdS, .int (nI hd)]))] s.heap.size = A at hD ⊢
  have hA : ∀ q : Nat, s.heap.size ≤ q → A q := fun q h => by rw [← hAe]; exact Or.inr h
  have hS : va_S A s.heap s.heap [] := va_S.rf
  have hl := lv_entry ([.ref bd]) (n := 2) (Nat.le_of_ble_eq_true rfl)
  refine W.eq (g2 := F0 m 0 (lg_sl ([.ref bd]) ++ List.replicate (2 - (lg_sl ([.ref bd])).length) Slot.unset).toArray []) (by rw [hargs]; exact lg_entry_eq _ _ _) ?_
  generalize (lg_sl ([.ref bd]) ++ List.replicate (2 - (lg_sl ([.ref bd])).length) Slot.unset).toArray = ls at hl ⊢
  have hl : lv_has ls 2 [(0, .ref bd)] := hl
  refine lv_aload_n hx hb dX1_turnAllTails_0 rfl (lv_at hl 0 rfl) ?_
  refine va_get (D := D) (ci := 3) (v := .int (nI hd)) (C := RX1) (T := TX1) (N := 2) hx hb hts nX1_turnAllTails_inX1 hown hK hP 0 rfl rfl 1 (by decide) (hts (.fieldLink RX1 18 "Gamefield$Board" "heads" "I") (by decide +kernel)) (fun _ h9 => h9) rfl dX1_turnAllTails_1 ?_
  refine z_ci (va_runS (As := [.int (nI hd)]) (rest := []) ⟨hx, hb, hml, hown, hts⟩ (c_J6_bitCount_0f7a4 l D hd (by omega)) (va_cwS 1 hts gX1_turnAllTails_J6_bitCount_0f7a4 rfl rfl rfl (by decide +kernel) ⟨Nat.le_of_ble_eq_true rfl, Nat.le_of_ble_eq_true rfl⟩) ⟨z_fb0, fun U hU hW => ⟨rfl, trivial⟩⟩ rfl rfl hl.1 rfl (lv_room (Nat.le_of_ble_eq_true rfl)) dX1_turnAllTails_4 ⟨Nat.le_of_ble_eq_true rfl, Nat.le_of_ble_eq_true rfl⟩) (fun r4 e4 => ?_)
  subst e4
  refine lv_istore_n (lv' := [(1, .int (nI (bcf hd))), (0, .ref bd)]) hx hb dX1_turnAllTails_7 rfl hl (by decide) rfl (fun ls hl => ?_)
  refine lv_aload_n hx hb dX1_turnAllTails_8 rfl (lv_at hl 1 rfl) ?_
  refine lv_iconst (v := nI 0) hx hb dX1_turnAllTails_9 zki_0 ?_
  refine va_put (D := D) (ci := 3) (v := .int (nI 0)) (ty := .int) (C := RX1) (T := TX1) (N := 2) hx hb hts nX1_turnAllTails_inX1 tyX1 tyX1_ok nmX1 hown hK hP hD hS 0 rfl rfl 1 (by decide) (hts (.fieldLink RX1 18 "Gamefield$Board" "heads" "I") (by decide +kernel)) (fun _ h9 => h9) rfl (by decide +kernel) rfl rfl (Nat.le_of_ble_eq_true rfl) dX1_turnAllTails_10 (fun H locs hP hD hS => ?_)
  have hP : va_P D vwCl [(bd, .inr (3, [.ref bdS, .int (nI 0)]))] H := hP
  have hD : va_D A [(bd, .inr (3, [.ref bdS, .int (nI 0)]))] := hD
  refine lv_iload_n hx hb dX1_turnAllTails_13 rfl (lv_at hl 0 rfl) ?_
  have hP9 := hP.sub (ws' := [(bd, .inr (3, [.ref bdS, .int (nI 0)]))]) [0] rfl
  have hD9 := hD.sub (ws' := [(bd, .inr (3, [.ref bdS, .int (nI 0)]))]) [0] (by decide) rfl
  have hK9 := hK.sub (tys' := []) [] rfl
  subst hAe
  refine W.widen (k := 0) (n := 0) (Nat.le_of_ble_eq_true rfl) (Nat.le_of_ble_eq_true rfl) ?_
  exact W.iret hx hb hr (fun t ht hW => ⟨⟨_, (), rfl, (rfl), by rw [ht]; exact hP9, va_K.moved hW.alike hK9, hD9⟩, hS.F ht⟩) hS.2.2 dX1_turnAllTails_14
abbrev rm_c_X1_isPlay : Room := { frames := 2, cells := 0, slots := 0, locals := 43 }
abbrev q_c_X1_isPlay (D : va_G) (bd : Nat) (bdS : Nat) (hd : Nat) (c9 : Nat) : Array Value → State → Outcome → State → Prop := vp_Si (fun r => r = (bI (isp hd c9)))
set_option maxHeartbeats 4000000 in
set_option maxRecDepth 100000 in
theorem c_X1_isPlay (l : Launch) (D : va_G) (bd : Nat) (bdS : Nat) (hd : Nat) (c9 : Nat) (hc9 : c9 < 256) (hhd : hd < 65536) : Met l yX1_isPlay wsX1_isPlay rm_c_X1_isPlay (va_Pc [.ref bd, .int (nI c9)] (fun U => va_P D vwCl [(bd, .inr (3, [.ref bdS, .int (nI hd)]))] U.heap ∧ va_K D vwCl [] U)) (q_c_X1_isPlay D bd bdS hd c9) 0 0 (fun _ => False) := by
  refine Met.ofW (cc := cX1_isPlay) (maxL := 6) (ret := (some .boolean)) (by decide) rfl ?_
  intro p e s m args below meth c s₁ B hml hv
  obtain ⟨hargs, hP, hK⟩ := hv
  have hx := B.exec
  have hb := B.bytes
  have hr := B.returns
  have hts := atoms_spec (ws := wsX1_isPlay) B.pre
  have hown : s.vm.findClass RX1 = some m.cls := findClass_of_methodNamed B.named
  have hlocks := B.notSynchronized
  have hl := lv_entry ([.ref bd, .int (nI c9)]) (n := 6) (Nat.le_of_ble_eq_true rfl)
  refine W.eq (g2 := F0 m 0 (lg_sl ([.ref bd, .int (nI c9)]) ++ List.replicate (6 - (lg_sl ([.ref bd, .int (nI c9)])).length) Slot.unset).toArray []) (by rw [hargs]; exact lg_entry_eq _ _ _) ?_
  generalize (lg_sl ([.ref bd, .int (nI c9)]) ++ List.replicate (6 - (lg_sl ([.ref bd, .int (nI c9)])).length) Slot.unset).toArray = ls at hl ⊢
  have hl : lv_has ls 6 [(0, .ref bd), (1, .int (nI c9))] := hl
  refine lv_iload_n hx hb dX1_isPlay_0 rfl (lv_at hl 1 rfl) ?_
  refine lv_bipush (v := nI 64) hx hb dX1_isPlay_1 zkb_64 ?_
  refine z_div hx hb (by omega) (by omega) (by omega) dX1_isPlay_3 ?_
  refine lv_istore_n (lv' := [(2, .int (nI (c9 / 64))), (0, .ref bd), (1, .int (nI c9))]) hx hb dX1_isPlay_4 rfl hl (by decide) rfl (fun ls hl => ?_)
  refine lv_iload_n hx hb dX1_isPlay_5 rfl (lv_at hl 2 rfl) ?_
  refine lv_bipush (v := nI 16) hx hb dX1_isPlay_6 zkb_16 ?_
  refine z_div hx hb (by omega) (by omega) (by omega) dX1_isPlay_8 ?_
  refine lv_iconst (v := nI 4) hx hb dX1_isPlay_9 zki_4 ?_
  refine z_rem hx hb (by omega) (by omega) (by omega) dX1_isPlay_10 ?_
  refine lv_istore_n (lv' := [(3, .int (nI ((c9 / 16) % 4))), (2, .int (nI (c9 / 64))), (0, .ref bd), (1, .int (nI c9))]) hx hb dX1_isPlay_11 rfl hl (by decide) rfl (fun ls hl => ?_)
  refine lv_iload_n hx hb dX1_isPlay_12 rfl (lv_at hl 3 rfl) ?_
  refine lv_iconst (v := nI 4) hx hb dX1_isPlay_13 zki_4 ?_
  refine z_div hx hb (by omega) (by omega) (by omega) dX1_isPlay_14 ?_
  refine lv_iconst (v := nI 4) hx hb dX1_isPlay_15 zki_4 ?_
  refine z_rem hx hb (by omega) (by omega) (by omega) dX1_isPlay_16 ?_
  refine lv_istore (lv' := [(4, .int (nI ((c9 / 4) % 4))), (3, .int (nI ((c9 / 16) % 4))), (2, .int (nI (c9 / 64))), (0, .ref bd), (1, .int (nI c9))]) hx hb dX1_isPlay_17 hl (by decide) rfl (fun ls hl => ?_)
  refine lv_iload_n hx hb dX1_isPlay_19 rfl (lv_at hl 4 rfl) ?_
  refine lv_iconst (v := nI 4) hx hb dX1_isPlay_20 zki_4 ?_
  refine z_rem hx hb (by omega) (by omega) (by omega) dX1_isPlay_21 ?_
  refine lv_istore (lv' := [(5, .int (nI (c9 % 4))), (4, .int (nI ((c9 / 4) % 4))), (3, .int (nI ((c9 / 16) % 4))), (2, .int (nI (c9 / 64))), (0, .ref bd), (1, .int (nI c9))]) hx hb dX1_isPlay_22 hl (by decide) rfl (fun ls hl => ?_)
  refine lv_aload_n hx hb dX1_isPlay_24 rfl (lv_at hl 4 rfl) ?_
  refine lv_iload_n hx hb dX1_isPlay_25 rfl (lv_at hl 3 rfl) ?_
  refine lv_iload_n hx hb dX1_isPlay_26 rfl (lv_at hl 2 rfl) ?_
  refine z_ci (va_runV (As := [.int (nI (c9 / 64)), .int (nI ((c9 / 16) % 4))]) (rest := []) ⟨hx, hb, hml, hown, hts⟩ (c_X1_isHeads l D bd bdS hd (c9 / 64) ((c9 / 16) % 4) (by omega) (by omega) (by omega)) (cwV 2 hts gX1_isPlay_X1_isHeads rfl rfl rfl (by decide +kernel) ⟨Nat.le_of_ble_eq_true rfl, Nat.le_of_ble_eq_true rfl⟩) ⟨(z_fb1), va_recv hK hP (ci := 3) (q0 := 0) rfl rfl, fun U hU hW => ⟨rfl, by rw [hU]; exact hP, va_K.moved hW.alike hK⟩⟩ rfl rfl hl.1 rfl (lv_room (Nat.le_of_ble_eq_true rfl)) dX1_isPlay_27 ⟨Nat.le_of_ble_eq_true rfl, Nat.le_of_ble_eq_true rfl⟩) (fun r27 e27 => ?_)
  subst e27
  refine z_beq (tgt := 49) hx hb dX1_isPlay_30 (by decide) (fun c_30 => ?_) (fun c_30 => ?_)
  · refine lv_iconst (v := nI 0) hx hb dX1_isPlay_49 zki_0 ?_
    refine zt (show nI 0 = bI false from rfl) ?_
    exact W.zret (ty := .boolean) hx hb hr (z_narB _) (fun t ht _ => ⟨_, rfl, (congrArg bI (by first | exact (isp_f1 c_30).symm | exact (isp_f2 c_36).symm | exact (isp_f3 c_42).symm)), ht⟩) (fun _ h => nomatch h) dX1_isPlay_50
  · refine lv_iload hx hb dX1_isPlay_33 (lv_at hl 1 rfl) ?_
    refine lv_iload_n hx hb dX1_isPlay_35 rfl (lv_at hl 3 rfl) ?_
    refine z_cge (tgt := 49) hx hb (by omega) (by omega) dX1_isPlay_36 (by decide) (fun c_36 => ?_) (fun c_36 => ?_)
    · refine lv_iconst (v := nI 0) hx hb dX1_isPlay_49 zki_0 ?_
      refine zt (show nI 0 = bI false from rfl) ?_
      exact W.zret (ty := .boolean) hx hb hr (z_narB _) (fun t ht _ => ⟨_, rfl, (congrArg bI (by first | exact (isp_f1 c_30).symm | exact (isp_f2 c_36).symm | exact (isp_f3 c_42).symm)), ht⟩) (fun _ h => nomatch h) dX1_isPlay_50
    · refine lv_iload hx hb dX1_isPlay_39 (lv_at hl 0 rfl) ?_
      refine lv_iload_n hx hb dX1_isPlay_41 rfl (lv_at hl 2 rfl) ?_
      refine z_cge (tgt := 49) hx hb (by omega) (by omega) dX1_isPlay_42 (by decide) (fun c_42 => ?_) (fun c_42 => ?_)
      · refine lv_iconst (v := nI 0) hx hb dX1_isPlay_49 zki_0 ?_
        refine zt (show nI 0 = bI false from rfl) ?_
        exact W.zret (ty := .boolean) hx hb hr (z_narB _) (fun t ht _ => ⟨_, rfl, (congrArg bI (by first | exact (isp_f1 c_30).symm | exact (isp_f2 c_36).symm | exact (isp_f3 c_42).symm)), ht⟩) (fun _ h => nomatch h) dX1_isPlay_50
      · refine lv_iconst (v := nI 1) hx hb dX1_isPlay_45 zki_1 ?_
        refine lv_goto (tgt := 50) hx hb dX1_isPlay_46 (by decide) ?_
        refine zt (show nI 1 = bI true from rfl) ?_
        exact W.zret (ty := .boolean) hx hb hr (z_narB _) (fun t ht _ => ⟨_, rfl, (congrArg bI (isp_t c_30 c_36 c_42).symm), ht⟩) (fun _ h => nomatch h) dX1_isPlay_50
abbrev rm_c_X1_headsAfter : Room := { frames := 1, cells := 0, slots := 0, locals := 21 }
abbrev q_c_X1_headsAfter (D : va_G) (bd : Nat) (bdS : Nat) (hd : Nat) (c9 : Nat) : Array Value → State → Outcome → State → Prop := vp_Si (fun r => r = (nI (aft hd c9)))
set_option maxHeartbeats 4000000 in
set_option maxRecDepth 100000 in
theorem c_X1_headsAfter (l : Launch) (D : va_G) (bd : Nat) (bdS : Nat) (hd : Nat) (c9 : Nat) (hc9 : c9 < 256) : Met l yX1_headsAfter wsX1_headsAfter rm_c_X1_headsAfter (va_Pc [.ref bd, .int (nI c9)] (fun U => va_P D vwCl [(bd, .inr (3, [.ref bdS, .int (nI hd)]))] U.heap ∧ va_K D vwCl [] U)) (q_c_X1_headsAfter D bd bdS hd c9) 0 0 (fun _ => False) := by
  refine Met.ofW (cc := cX1_headsAfter) (maxL := 6) (ret := (some .int)) (by decide) rfl ?_
  intro p e s m args below meth c s₁ B hml hv
  obtain ⟨hargs, hP, hK⟩ := hv
  have hx := B.exec
  have hb := B.bytes
  have hr := B.returns
  have hts := atoms_spec (ws := wsX1_headsAfter) B.pre
  have hown : s.vm.findClass RX1 = some m.cls := findClass_of_methodNamed B.named
  have hlocks := B.notSynchronized
  have hl := lv_entry ([.ref bd, .int (nI c9)]) (n := 6) (Nat.le_of_ble_eq_true rfl)
  refine W.eq (g2 := F0 m 0 (lg_sl ([.ref bd, .int (nI c9)]) ++ List.replicate (6 - (lg_sl ([.ref bd, .int (nI c9)])).length) Slot.unset).toArray []) (by rw [hargs]; exact lg_entry_eq _ _ _) ?_
  generalize (lg_sl ([.ref bd, .int (nI c9)]) ++ List.replicate (6 - (lg_sl ([.ref bd, .int (nI c9)])).length) Slot.unset).toArray = ls at hl ⊢
  have hl : lv_has ls 6 [(0, .ref bd), (1, .int (nI c9))] := hl
  refine lv_iload_n hx hb dX1_headsAfter_0 rfl (lv_at hl 1 rfl) ?_
  refine lv_bipush (v := nI 64) hx hb dX1_headsAfter_1 zkb_64 ?_
  refine z_div hx hb (by omega) (by omega) (by omega) dX1_headsAfter_3 ?_
  refine lv_istore_n (lv' := [(2, .int (nI (c9 / 64))), (0, .ref bd), (1, .int (nI c9))]) hx hb dX1_headsAfter_4 rfl hl (by decide) rfl (fun ls hl => ?_)
  refine lv_iload_n hx hb dX1_headsAfter_5 rfl (lv_at hl 2 rfl) ?_
  refine lv_bipush (v := nI 16) hx hb dX1_headsAfter_6 zkb_16 ?_
  refine z_div hx hb (by omega) (by omega) (by omega) dX1_headsAfter_8 ?_
  refine lv_iconst (v := nI 4) hx hb dX1_headsAfter_9 zki_4 ?_
  refine z_rem hx hb (by omega) (by omega) (by omega) dX1_headsAfter_10 ?_
  refine lv_istore_n (lv' := [(3, .int (nI ((c9 / 16) % 4))), (2, .int (nI (c9 / 64))), (0, .ref bd), (1, .int (nI c9))]) hx hb dX1_headsAfter_11 rfl hl (by decide) rfl (fun ls hl => ?_)
  refine lv_iload_n hx hb dX1_headsAfter_12 rfl (lv_at hl 3 rfl) ?_
  refine lv_iconst (v := nI 4) hx hb dX1_headsAfter_13 zki_4 ?_
  refine z_div hx hb (by omega) (by omega) (by omega) dX1_headsAfter_14 ?_
  refine lv_iconst (v := nI 4) hx hb dX1_headsAfter_15 zki_4 ?_
  refine z_rem hx hb (by omega) (by omega) (by omega) dX1_headsAfter_16 ?_
  refine lv_istore (lv' := [(4, .int (nI ((c9 / 4) % 4))), (3, .int (nI ((c9 / 16) % 4))), (2, .int (nI (c9 / 64))), (0, .ref bd), (1, .int (nI c9))]) hx hb dX1_headsAfter_17 hl (by decide) rfl (fun ls hl => ?_)
  refine lv_iload_n hx hb dX1_headsAfter_19 rfl (lv_at hl 4 rfl) ?_
  refine lv_iconst (v := nI 4) hx hb dX1_headsAfter_20 zki_4 ?_
  refine z_rem hx hb (by omega) (by omega) (by omega) dX1_headsAfter_21 ?_
  refine lv_istore (lv' := [(5, .int (nI (c9 % 4))), (4, .int (nI ((c9 / 4) % 4))), (3, .int (nI ((c9 / 16) % 4))), (2, .int (nI (c9 / 64))), (0, .ref bd), (1, .int (nI c9))]) hx hb dX1_headsAfter_22 hl (by decide) rfl (fun ls hl => ?_)
  refine lv_aload_n hx hb dX1_headsAfter_24 rfl (lv_at hl 4 rfl) ?_
  refine va_get (D := D) (ci := 3) (v := .int (nI hd)) (C := RX1) (T := TX1) (N := 2) hx hb hts nX1_headsAfter_inX1 hown hK hP 0 rfl rfl 1 (by decide) (hts (.fieldLink RX1 18 "Gamefield$Board" "heads" "I") (by decide +kernel)) (fun _ h9 => h9) rfl dX1_headsAfter_25 ?_
  refine lv_iload_n hx hb dX1_headsAfter_28 rfl (lv_at hl 3 rfl) ?_
  refine lv_iload_n hx hb dX1_headsAfter_29 rfl (lv_at hl 2 rfl) ?_
  refine z_ci (va_runS (As := [.int (nI (c9 / 64)), .int (nI ((c9 / 16) % 4))]) (rest := [.int (nI hd)]) ⟨hx, hb, hml, hown, hts⟩ (c_X1_bitOf l D (c9 / 64) ((c9 / 16) % 4) (by omega) (by omega)) (va_cwS 2 hts gX1_headsAfter_X1_bitOf rfl rfl rfl (by decide +kernel) ⟨Nat.le_of_ble_eq_true rfl, Nat.le_of_ble_eq_true rfl⟩) ⟨z_fb0, fun U hU hW => ⟨rfl, trivial⟩⟩ rfl rfl hl.1 rfl (lv_room (Nat.le_of_ble_eq_true rfl)) dX1_headsAfter_30 ⟨Nat.le_of_ble_eq_true rfl, Nat.le_of_ble_eq_true rfl⟩) (fun r30 e30 => ?_)
  subst e30
  refine z_xor hx hb dX1_headsAfter_33 ?_
  refine lv_iload hx hb dX1_headsAfter_34 (lv_at hl 1 rfl) ?_
  refine lv_iload_n hx hb dX1_headsAfter_36 rfl (lv_at hl 2 rfl) ?_
  refine z_ci (va_runS (As := [.int (nI ((c9 / 4) % 4)), .int (nI ((c9 / 16) % 4))]) (rest := [.int (nI (hd ^^^ (1 * 2 ^ (4 * (c9 / 64) + ((c9 / 16) % 4)))))]) ⟨hx, hb, hml, hown, hts⟩ (c_X1_bitOf l D ((c9 / 4) % 4) ((c9 / 16) % 4) (by omega) (by omega)) (va_cwS 2 hts gX1_headsAfter_X1_bitOf rfl rfl rfl (by decide +kernel) ⟨Nat.le_of_ble_eq_true rfl, Nat.le_of_ble_eq_true rfl⟩) ⟨z_fb0, fun U hU hW => ⟨rfl, trivial⟩⟩ rfl rfl hl.1 rfl (lv_room (Nat.le_of_ble_eq_true rfl)) dX1_headsAfter_37 ⟨Nat.le_of_ble_eq_true rfl, Nat.le_of_ble_eq_true rfl⟩) (fun r37 e37 => ?_)
  subst e37
  refine z_xor hx hb dX1_headsAfter_40 ?_
  refine lv_iload_n hx hb dX1_headsAfter_41 rfl (lv_at hl 3 rfl) ?_
  refine lv_iload hx hb dX1_headsAfter_42 (lv_at hl 0 rfl) ?_
  refine z_ci (va_runS (As := [.int (nI (c9 / 64)), .int (nI (c9 % 4))]) (rest := [.int (nI ((hd ^^^ (1 * 2 ^ (4 * (c9 / 64) + ((c9 / 16) % 4)))) ^^^ (1 * 2 ^ (4 * ((c9 / 4) % 4) + ((c9 / 16) % 4)))))]) ⟨hx, hb, hml, hown, hts⟩ (c_X1_bitOf l D (c9 / 64) (c9 % 4) (by omega) (by omega)) (va_cwS 2 hts gX1_headsAfter_X1_bitOf rfl rfl rfl (by decide +kernel) ⟨Nat.le_of_ble_eq_true rfl, Nat.le_of_ble_eq_true rfl⟩) ⟨z_fb0, fun U hU hW => ⟨rfl, trivial⟩⟩ rfl rfl hl.1 rfl (lv_room (Nat.le_of_ble_eq_true rfl)) dX1_headsAfter_44 ⟨Nat.le_of_ble_eq_true rfl, Nat.le_of_ble_eq_true rfl⟩) (fun r44 e44 => ?_)
  subst e44
  refine z_xor hx hb dX1_headsAfter_47 ?_
  refine lv_iload hx hb dX1_headsAfter_48 (lv_at hl 1 rfl) ?_
  refine lv_iload hx hb dX1_headsAfter_50 (lv_at hl 0 rfl) ?_
  refine z_ci (va_runS (As := [.int (nI ((c9 / 4) % 4)), .int (nI (c9 % 4))]) (rest := [.int (nI (((hd ^^^ (1 * 2 ^ (4 * (c9 / 64) + ((c9 / 16) % 4)))) ^^^ (1 * 2 ^ (4 * ((c9 / 4) % 4) + ((c9 / 16) % 4)))) ^^^ (1 * 2 ^ (4 * (c9 / 64) + (c9 % 4)))))]) ⟨hx, hb, hml, hown, hts⟩ (c_X1_bitOf l D ((c9 / 4) % 4) (c9 % 4) (by omega) (by omega)) (va_cwS 2 hts gX1_headsAfter_X1_bitOf rfl rfl rfl (by decide +kernel) ⟨Nat.le_of_ble_eq_true rfl, Nat.le_of_ble_eq_true rfl⟩) ⟨z_fb0, fun U hU hW => ⟨rfl, trivial⟩⟩ rfl rfl hl.1 rfl (lv_room (Nat.le_of_ble_eq_true rfl)) dX1_headsAfter_52 ⟨Nat.le_of_ble_eq_true rfl, Nat.le_of_ble_eq_true rfl⟩) (fun r52 e52 => ?_)
  subst e52
  refine z_xor hx hb dX1_headsAfter_55 ?_
  exact W.iret hx hb hr (fun t ht _ => ⟨_, rfl, (by simp only [aft, trn, Nat.one_mul]), ht⟩) (fun _ h => nomatch h) dX1_headsAfter_56
abbrev rm_c_X1_makePlay : Room := { frames := 2, cells := 0, slots := 0, locals := 46 }
abbrev q_c_X1_makePlay (D : va_G) (sz : Nat) (bd : Nat) (bdS : Nat) (hd : Nat) (c9 : Nat) : Array Value → State → Outcome → State → Prop := va_Qv (fun (_ : Unit) => True) (fun (_ : Unit) t => va_P D vwCl [(bd, .inr (3, [.ref bdS, .int (nI (aft hd c9))]))] t.heap ∧ va_K D vwCl [] t ∧ va_D (va_A [(bd, .inr (3, [.ref bdS, .int (nI hd)]))] sz) [(bd, .inr (3, [.ref bdS, .int (nI (aft hd c9))]))]) (va_A [(bd, .inr (3, [.ref bdS, .int (nI hd)]))] sz)
set_option maxHeartbeats 4000000 in
set_option maxRecDepth 100000 in
theorem c_X1_makePlay (l : Launch) (D : va_G) (sz : Nat) (bd : Nat) (bdS : Nat) (hd : Nat) (c9 : Nat) (hc9 : c9 < 256) : Met l yX1_makePlay wsX1_makePlay rm_c_X1_makePlay (va_Pc [.ref bd, .int (nI c9)] (fun U => U.heap.size = sz ∧ va_P D vwCl [(bd, .inr (3, [.ref bdS, .int (nI hd)]))] U.heap ∧ va_K D vwCl [] U ∧ va_D (fun _ => True) [(bd, .inr (3, [.ref bdS, .int (nI hd)]))])) (q_c_X1_makePlay D sz bd bdS hd c9) 0 0 (va_A [(bd, .inr (3, [.ref bdS, .int (nI hd)]))] sz) := by
  refine Met.ofW (cc := cX1_makePlay) (maxL := 2) (ret := none) (by decide) rfl ?_
  intro p e s m args below meth c s₁ B hml hv
  obtain ⟨hargs, hsz, hP, hK, hD0⟩ := hv
  have hx := B.exec
  have hb := B.bytes
  have hr := B.returns
  have hts := atoms_spec (ws := wsX1_makePlay) B.pre
  have hown : s.vm.findClass RX1 = some m.cls := findClass_of_methodNamed B.named
  have hlocks := B.notSynchronized
  subst hsz
  have hD := hD0.self (sz := s.heap.size)
  generalize hAe : va_A [(bd, .inr (3, [.ref bdS, .int (nI hd)]))] s.heap.size = A at hD ⊢
  have hA : ∀ q : Nat, s.heap.size ≤ q → A q := fun q h => by rw [← hAe]; exact Or.inr h
  have hS : va_S A s.heap s.heap [] := va_S.rf
  have hl := lv_entry ([.ref bd, .int (nI c9)]) (n := 2) (Nat.le_of_ble_eq_true rfl)
  refine W.eq (g2 := F0 m 0 (lg_sl ([.ref bd, .int (nI c9)]) ++ List.replicate (2 - (lg_sl ([.ref bd, .int (nI c9)])).length) Slot.unset).toArray []) (by rw [hargs]; exact lg_entry_eq _ _ _) ?_
  generalize (lg_sl ([.ref bd, .int (nI c9)]) ++ List.replicate (2 - (lg_sl ([.ref bd, .int (nI c9)])).length) Slot.unset).toArray = ls at hl ⊢
  have hl : lv_has ls 2 [(0, .ref bd), (1, .int (nI c9))] := hl
  refine lv_aload_n hx hb dX1_makePlay_0 rfl (lv_at hl 0 rfl) ?_
  refine lv_aload_n hx hb dX1_makePlay_1 rfl (lv_at hl 0 rfl) ?_
  refine lv_iload_n hx hb dX1_makePlay_2 rfl (lv_at hl 1 rfl) ?_
  refine z_ci (va_runV (As := [.int (nI c9)]) (rest := [.ref bd]) ⟨hx, hb, hml, hown, hts⟩ (c_X1_headsAfter l D bd bdS hd c9 (by omega)) (cwV 1 hts gX1_makePlay_X1_headsAfter rfl rfl rfl (by decide +kernel) ⟨Nat.le_of_ble_eq_true rfl, Nat.le_of_ble_eq_true rfl⟩) ⟨(z_fb1), va_recv hK hP (ci := 3) (q0 := 0) rfl rfl, fun U hU hW => ⟨rfl, by rw [hU]; exact hP, va_K.moved hW.alike hK⟩⟩ rfl rfl hl.1 rfl (lv_room (Nat.le_of_ble_eq_true rfl)) dX1_makePlay_3 ⟨Nat.le_of_ble_eq_true rfl, Nat.le_of_ble_eq_true rfl⟩) (fun r3 e3 => ?_)
  subst e3
  refine va_put (D := D) (ci := 3) (v := .int (nI (aft hd c9))) (ty := .int) (C := RX1) (T := TX1) (N := 2) hx hb hts nX1_makePlay_inX1 tyX1 tyX1_ok nmX1 hown hK hP hD hS 0 rfl rfl 1 (by decide) (hts (.fieldLink RX1 18 "Gamefield$Board" "heads" "I") (by decide +kernel)) (fun _ h9 => h9) rfl (by decide +kernel) rfl rfl (Nat.le_of_ble_eq_true rfl) dX1_makePlay_6 (fun H locs hP hD hS => ?_)
  have hP : va_P D vwCl [(bd, .inr (3, [.ref bdS, .int (nI (aft hd c9))]))] H := hP
  have hD : va_D A [(bd, .inr (3, [.ref bdS, .int (nI (aft hd c9))]))] := hD
  have hP9 := hP.sub (ws' := [(bd, .inr (3, [.ref bdS, .int (nI (aft hd c9))]))]) [0] rfl
  have hD9 := hD.sub (ws' := [(bd, .inr (3, [.ref bdS, .int (nI (aft hd c9))]))]) [0] (by decide) rfl
  have hK9 := hK.sub (tys' := []) [] rfl
  subst hAe
  refine W.widen (k := 0) (n := 0) (Nat.le_of_ble_eq_true rfl) (Nat.le_of_ble_eq_true rfl) ?_
  exact W.vret hx hb hr (fun t ht hW => ⟨⟨(), rfl, (trivial), by rw [ht]; exact hP9, va_K.moved hW.alike hK9, hD9⟩, hS.F ht⟩) hS.2.2 dX1_makePlay_9
abbrev rm_c_X1_countPlays : Room := { frames := 3, cells := 0, slots := 0, locals := 68 }
abbrev q_c_X1_countPlays (D : va_G) (bd : Nat) (bdS : Nat) (hd : Nat) : Array Value → State → Outcome → State → Prop := vp_Si (fun r => r = (nI (cn (isp hd) 256)))
set_option maxHeartbeats 4000000 in
set_option maxRecDepth 100000 in
theorem c_X1_countPlays (l : Launch) (D : va_G) (bd : Nat) (bdS : Nat) (hd : Nat) (hhd : hd < 65536) : Met l yX1_countPlays wsX1_countPlays rm_c_X1_countPlays (va_Pc [.ref bd] (fun U => va_P D vwCl [(bd, .inr (3, [.ref bdS, .int (nI hd)]))] U.heap ∧ va_K D vwCl [] U)) (q_c_X1_countPlays D bd bdS hd) 0 0 (fun _ => False) := by
  refine Met.ofW (cc := cX1_countPlays) (maxL := 3) (ret := (some .int)) (by decide) rfl ?_
  intro p e s m args below meth c s₁ B hml hv
  obtain ⟨hargs, hP, hK⟩ := hv
  have hx := B.exec
  have hb := B.bytes
  have hr := B.returns
  have hts := atoms_spec (ws := wsX1_countPlays) B.pre
  have hown : s.vm.findClass RX1 = some m.cls := findClass_of_methodNamed B.named
  have hlocks := B.notSynchronized
  have hl := lv_entry ([.ref bd]) (n := 3) (Nat.le_of_ble_eq_true rfl)
  refine W.eq (g2 := F0 m 0 (lg_sl ([.ref bd]) ++ List.replicate (3 - (lg_sl ([.ref bd])).length) Slot.unset).toArray []) (by rw [hargs]; exact lg_entry_eq _ _ _) ?_
  generalize (lg_sl ([.ref bd]) ++ List.replicate (3 - (lg_sl ([.ref bd])).length) Slot.unset).toArray = ls at hl ⊢
  have hl : lv_has ls 3 [(0, .ref bd)] := hl
  refine lv_iconst (v := nI 0) hx hb dX1_countPlays_0 zki_0 ?_
  refine lv_istore_n (lv' := [(1, .int (nI 0)), (0, .ref bd)]) hx hb dX1_countPlays_1 rfl hl (by decide) rfl (fun ls hl => ?_)
  refine lv_iconst (v := nI 0) hx hb dX1_countPlays_2 zki_0 ?_
  refine lv_istore_n (lv' := [(2, .int (nI 0)), (1, .int (nI 0)), (0, .ref bd)]) hx hb dX1_countPlays_3 rfl hl (by decide) rfl (fun ls hl => ?_)
  have cut_4 : ∀ (nn9 : Nat) (i : Nat) (hi : i ≤ 256) (hn9 : 256 - i < nn9) (ls : Array Slot) (hl : lv_has ls 3 [(0, .ref bd), (1, .int (nI (cn (isp hd) i))), (2, .int (nI i))]), W p l e (headSpec wsX1_countPlays rm_c_X1_countPlays).room s m args below meth c s.heap [] 0 0 (MQ below (q_c_X1_countPlays D bd bdS hd) args s 0 0 (fun _ => False)) (F0 m 4 ls []) := by
    intro nn9
    induction nn9 with
    | zero => intro i hi hn9; exact absurd hn9 (Nat.not_lt_zero _)
    | succ nn9 ih_4 =>
      intro i hi hn9 ls hl
      refine lv_iload_n hx hb dX1_countPlays_4 rfl (lv_at hl 2 rfl) ?_
      refine lv_sipush (v := nI 256) hx hb dX1_countPlays_5 zks_256 ?_
      refine z_cge (tgt := 28) hx hb (by omega) (by omega) dX1_countPlays_8 (by decide) (fun c_8 => ?_) (fun c_8 => ?_)
      · refine lv_iload_n hx hb dX1_countPlays_28 rfl (lv_at hl 1 rfl) ?_
        exact W.iret hx hb hr (fun t ht _ => ⟨_, rfl, (by rw [show i = 256 by omega]), ht⟩) (fun _ h => nomatch h) dX1_countPlays_29
      · refine lv_aload_n hx hb dX1_countPlays_11 rfl (lv_at hl 0 rfl) ?_
        refine lv_iload_n hx hb dX1_countPlays_12 rfl (lv_at hl 2 rfl) ?_
        refine z_ci (va_runV (As := [.int (nI i)]) (rest := []) ⟨hx, hb, hml, hown, hts⟩ (c_X1_isPlay l D bd bdS hd i (by omega) (by omega)) (cwV 1 hts gX1_countPlays_X1_isPlay rfl rfl rfl (by decide +kernel) ⟨Nat.le_of_ble_eq_true rfl, Nat.le_of_ble_eq_true rfl⟩) ⟨(z_fb1), va_recv hK hP (ci := 3) (q0 := 0) rfl rfl, fun U hU hW => ⟨rfl, by rw [hU]; exact hP, va_K.moved hW.alike hK⟩⟩ rfl rfl hl.1 rfl (lv_room (Nat.le_of_ble_eq_true rfl)) dX1_countPlays_13 ⟨Nat.le_of_ble_eq_true rfl, Nat.le_of_ble_eq_true rfl⟩) (fun r13 e13 => ?_)
        subst e13
        refine z_beq (tgt := 22) hx hb dX1_countPlays_16 (by decide) (fun c_16 => ?_) (fun c_16 => ?_)
        · have e9 : cn (isp hd) i = cn (isp hd) (i + 1) := by rw [cn, c_16]; rfl
          refine lv_iinc (v := (nI (i + 1))) (lv' := [(2, .int (nI (i + 1))), (0, .ref bd), (1, .int (nI (cn (isp hd) i)))]) hx hb dX1_countPlays_22 hl (k := 2) rfl (z_inc i 1) (by decide) rfl (fun ls hl => ?_)
          refine lv_goto (tgt := 4) hx hb dX1_countPlays_25 (by decide) ?_
          have hl : lv_has ls 3 [(2, .int (nI (i + 1))), (0, .ref bd), (1, .int (nI (cn (isp hd) (i + 1))))] := Eq.mp (congrArg (fun z9 => lv_has ls 3 [(2, .int (nI (i + 1))), (0, .ref bd), (1, .int z9)]) (congrArg nI (show cn (isp hd) i = cn (isp hd) (i + 1) from e9))) hl
          exact ih_4 (i + 1) (by omega) (by omega) ls (lv_sub hl [1, 2, 0] rfl)
        · have e9 : cn (isp hd) i + 1 = cn (isp hd) (i + 1) := by rw [cn, c_16]; rfl
          refine lv_iinc (v := (nI (cn (isp hd) i + 1))) (lv' := [(1, .int (nI (cn (isp hd) i + 1))), (0, .ref bd), (2, .int (nI i))]) hx hb dX1_countPlays_19 hl (k := 1) rfl (z_inc (cn (isp hd) i) 1) (by decide) rfl (fun ls hl => ?_)
          refine lv_iinc (v := (nI (i + 1))) (lv' := [(2, .int (nI (i + 1))), (1, .int (nI (cn (isp hd) i + 1))), (0, .ref bd)]) hx hb dX1_countPlays_22 hl (k := 2) rfl (z_inc i 1) (by decide) rfl (fun ls hl => ?_)
          refine lv_goto (tgt := 4) hx hb dX1_countPlays_25 (by decide) ?_
          have hl : lv_has ls 3 [(2, .int (nI (i + 1))), (1, .int (nI (cn (isp hd) (i + 1)))), (0, .ref bd)] := Eq.mp (congrArg (fun z9 => lv_has ls 3 [(2, .int (nI (i + 1))), (1, .int z9), (0, .ref bd)]) (congrArg nI (show cn (isp hd) i + 1 = cn (isp hd) (i + 1) from e9))) hl
          exact ih_4 (i + 1) (by omega) (by omega) ls (lv_sub hl [2, 1, 0] rfl)
  have hl : lv_has ls 3 [(2, .int (nI 0)), (1, .int (nI (cn (isp hd) 0))), (0, .ref bd)] := Eq.mp (congrArg (fun z9 => lv_has ls 3 [(2, .int (nI 0)), (1, .int z9), (0, .ref bd)]) (congrArg nI (show 0 = cn (isp hd) 0 from rfl))) hl
  exact cut_4 ((256 - 0) + 1) 0 (by omega) (Nat.lt_succ_self _) ls (lv_sub hl [2, 1, 0] rfl)
abbrev rm_c_X1_worthOf : Room := { frames := 2, cells := 0, slots := 0, locals := 53 }
abbrev q_c_X1_worthOf (D : va_G) (nm : Nat) (tT : Nat) (mS : Nat) (cI : ClassId) (n : Nat) : Array Value → State → Outcome → State → Prop := vp_Si (fun r => r = (nI (gw n)))
set_option maxHeartbeats 4000000 in
set_option maxRecDepth 100000 in
theorem c_X1_worthOf (l : Launch) (D : va_G) (nm : Nat) (tT : Nat) (mS : Nat) (cI : ClassId) (n : Nat) (hn : n < 65536) : Met l yX1_worthOf wsX1_worthOf rm_c_X1_worthOf (va_Pc [.int (nI n), .ref nm] (fun U => va_P D vwCl [(nm, .inr (5, [.ref tT, .ref mS])), (tT, .inl (cI, 256, .inl (aN ztab)))] U.heap ∧ va_K D vwCl [(cI, .int)] U)) (q_c_X1_worthOf D nm tT mS cI n) 0 0 (fun _ => False) := by
  refine Met.ofW (cc := cX1_worthOf) (maxL := 4) (ret := (some .int)) (by decide) rfl ?_
  intro p e s m args below meth c s₁ B hml hv
  obtain ⟨hargs, hP, hK⟩ := hv
  have hx := B.exec
  have hb := B.bytes
  have hr := B.returns
  have hts := atoms_spec (ws := wsX1_worthOf) B.pre
  have hown : s.vm.findClass RX1 = some m.cls := findClass_of_methodNamed B.named
  have hlocks := B.notSynchronized
  have hl := lv_entry ([.int (nI n), .ref nm]) (n := 4) (Nat.le_of_ble_eq_true rfl)
  refine W.eq (g2 := F0 m 0 (lg_sl ([.int (nI n), .ref nm]) ++ List.replicate (4 - (lg_sl ([.int (nI n), .ref nm])).length) Slot.unset).toArray []) (by rw [hargs]; exact lg_entry_eq _ _ _) ?_
  generalize (lg_sl ([.int (nI n), .ref nm]) ++ List.replicate (4 - (lg_sl ([.int (nI n), .ref nm])).length) Slot.unset).toArray = ls at hl ⊢
  have hl : lv_has ls 4 [(0, .int (nI n)), (1, .ref nm)] := hl
  refine lv_iconst (v := nI 0) hx hb dX1_worthOf_0 zki_0 ?_
  refine lv_istore_n (lv' := [(2, .int (nI 0)), (0, .int (nI n)), (1, .ref nm)]) hx hb dX1_worthOf_1 rfl hl (by decide) rfl (fun ls hl => ?_)
  refine lv_iconst (v := nI 0) hx hb dX1_worthOf_2 zki_0 ?_
  refine lv_istore_n (lv' := [(3, .int (nI 0)), (2, .int (nI 0)), (0, .int (nI n)), (1, .ref nm)]) hx hb dX1_worthOf_3 rfl hl (by decide) rfl (fun ls hl => ?_)
  have cut_4 : ∀ (nn9 : Nat) (i : Nat) (hi : i ≤ 16) (hn9 : 16 - i < nn9) (ls : Array Slot) (hl : lv_has ls 4 [(0, .int (nI n)), (1, .ref nm), (2, .int (nI (gwk n i))), (3, .int (nI i))]), W p l e (headSpec wsX1_worthOf rm_c_X1_worthOf).room s m args below meth c s.heap [] 0 0 (MQ below (q_c_X1_worthOf D nm tT mS cI n) args s 0 0 (fun _ => False)) (F0 m 4 ls []) := by
    intro nn9
    induction nn9 with
    | zero => intro i hi hn9; exact absurd hn9 (Nat.not_lt_zero _)
    | succ nn9 ih_4 =>
      intro i hi hn9 ls hl
      refine lv_iload_n hx hb dX1_worthOf_4 rfl (lv_at hl 3 rfl) ?_
      refine lv_bipush (v := nI 16) hx hb dX1_worthOf_5 zkb_16 ?_
      refine z_cge (tgt := 38) hx hb (by omega) (by omega) dX1_worthOf_7 (by decide) (fun c_7 => ?_) (fun c_7 => ?_)
      · refine lv_iload_n hx hb dX1_worthOf_38 rfl (lv_at hl 2 rfl) ?_
        exact W.iret hx hb hr (fun t ht _ => ⟨_, rfl, (by rw [show i = 16 by omega]; rfl), ht⟩) (fun _ h => nomatch h) dX1_worthOf_39
      · refine lv_iload_n hx hb dX1_worthOf_10 rfl (lv_at hl 0 rfl) ?_
        refine lv_iload_n hx hb dX1_worthOf_11 rfl (lv_at hl 3 rfl) ?_
        refine z_shr hx hb (by omega) (by omega) dX1_worthOf_12 ?_
        refine lv_iconst (v := nI 1) hx hb dX1_worthOf_13 zki_1 ?_
        refine z_and hx hb dX1_worthOf_14 ?_
        refine lv_iconst (v := nI 1) hx hb dX1_worthOf_15 zki_1 ?_
        have hb16 : (n / 2 ^ i) &&& 1 < 2 := by rw [Nat.and_one_is_mod]; omega
        refine z_cne (tgt := 32) hx hb (by omega) (by omega) dX1_worthOf_16 (by decide) (fun c_16 => ?_) (fun c_16 => ?_)
        · have e9 : gwk n i = gwk n (i + 1) := by
            rw [gwk, if_neg]
            intro q
            rw [bit1, q] at c_16
            exact c_16 rfl
          refine lv_iinc (v := (nI (i + 1))) (lv' := [(3, .int (nI (i + 1))), (0, .int (nI n)), (1, .ref nm), (2, .int (nI (gwk n i)))]) hx hb dX1_worthOf_32 hl (k := 3) rfl (z_inc i 1) (by decide) rfl (fun ls hl => ?_)
          refine lv_goto (tgt := 4) hx hb dX1_worthOf_35 (by decide) ?_
          have hl : lv_has ls 4 [(3, .int (nI (i + 1))), (0, .int (nI n)), (1, .ref nm), (2, .int (nI (gwk n (i + 1))))] := Eq.mp (congrArg (fun z9 => lv_has ls 4 [(3, .int (nI (i + 1))), (0, .int (nI n)), (1, .ref nm), (2, .int z9)]) (congrArg nI (show gwk n i = gwk n (i + 1) from e9))) hl
          exact ih_4 (i + 1) (by omega) (by omega) ls (lv_sub hl [1, 2, 3, 0] rfl)
        · have hb9 : n.testBit i = true := by
            rw [bit1] at c_16
            cases hb : n.testBit i with
            | true => rfl
            | false => rw [hb] at c_16; cases c_16
          have e9 : gwk n i ^^^ np (i / 4) (i % 4) = gwk n (i + 1) := by rw [gwk, if_pos hb9]
          refine lv_iload_n hx hb dX1_worthOf_19 rfl (lv_at hl 2 rfl) ?_
          refine lv_aload_n hx hb dX1_worthOf_20 rfl (lv_at hl 1 rfl) ?_
          refine lv_iload_n hx hb dX1_worthOf_21 rfl (lv_at hl 3 rfl) ?_
          refine lv_iconst (v := nI 4) hx hb dX1_worthOf_22 zki_4 ?_
          refine z_div hx hb (by omega) (by omega) (by omega) dX1_worthOf_23 ?_
          refine lv_iload_n hx hb dX1_worthOf_24 rfl (lv_at hl 3 rfl) ?_
          refine lv_iconst (v := nI 4) hx hb dX1_worthOf_25 zki_4 ?_
          refine z_rem hx hb (by omega) (by omega) (by omega) dX1_worthOf_26 ?_
          refine z_ci (va_runV (As := [.int (nI (i / 4)), .int (nI (i % 4))]) (rest := [.int (nI (gwk n i))]) ⟨hx, hb, hml, hown, hts⟩ (c_X3_productOf l D nm tT mS cI (i / 4) (i % 4) (by omega) (by omega)) (cwV 2 hts gX1_worthOf_X3_productOf rfl rfl rfl (by decide +kernel) ⟨Nat.le_of_ble_eq_true rfl, Nat.le_of_ble_eq_true rfl⟩) ⟨(z_fb1), va_recv hK hP (ci := 5) (q0 := 0) rfl rfl, fun U hU hW => ⟨rfl, by rw [hU]; exact hP, va_K.moved hW.alike hK⟩⟩ rfl rfl hl.1 rfl (lv_room (Nat.le_of_ble_eq_true rfl)) dX1_worthOf_27 ⟨Nat.le_of_ble_eq_true rfl, Nat.le_of_ble_eq_true rfl⟩) (fun r27 e27 => ?_)
          subst e27
          have hn27 : np (i / 4) (i % 4) < 256 := np_lt (by omega) (by omega)
          refine z_xor hx hb dX1_worthOf_30 ?_
          refine lv_istore_n (lv' := [(2, .int (nI ((gwk n i) ^^^ (np (i / 4) (i % 4))))), (0, .int (nI n)), (1, .ref nm), (3, .int (nI i))]) hx hb dX1_worthOf_31 rfl hl (by decide) rfl (fun ls hl => ?_)
          refine lv_iinc (v := (nI (i + 1))) (lv' := [(3, .int (nI (i + 1))), (2, .int (nI ((gwk n i) ^^^ (np (i / 4) (i % 4))))), (0, .int (nI n)), (1, .ref nm)]) hx hb dX1_worthOf_32 hl (k := 3) rfl (z_inc i 1) (by decide) rfl (fun ls hl => ?_)
          refine lv_goto (tgt := 4) hx hb dX1_worthOf_35 (by decide) ?_
          have hl : lv_has ls 4 [(3, .int (nI (i + 1))), (2, .int (nI (gwk n (i + 1)))), (0, .int (nI n)), (1, .ref nm)] := Eq.mp (congrArg (fun z9 => lv_has ls 4 [(3, .int (nI (i + 1))), (2, .int z9), (0, .int (nI n)), (1, .ref nm)]) (congrArg nI (show ((gwk n i) ^^^ (np (i / 4) (i % 4))) = gwk n (i + 1) from e9))) hl
          exact ih_4 (i + 1) (by omega) (by omega) ls (lv_sub hl [2, 3, 1, 0] rfl)
  have hl : lv_has ls 4 [(3, .int (nI 0)), (2, .int (nI (gwk n 0))), (0, .int (nI n)), (1, .ref nm)] := Eq.mp (congrArg (fun z9 => lv_has ls 4 [(3, .int (nI 0)), (2, .int z9), (0, .int (nI n)), (1, .ref nm)]) (congrArg nI (show 0 = gwk n 0 from rfl))) hl
  exact cut_4 ((16 - 0) + 1) 0 (by omega) (Nat.lt_succ_self _) ls (lv_sub hl [2, 3, 1, 0] rfl)
abbrev rm_c_X1_worthByTrying : Room := { frames := 3, cells := 0, slots := 0, locals := 76 }
abbrev q_c_X1_worthByTrying (D : va_G) (sz : Nat) (bd : Nat) (bdS : Nat) (hd : Nat) (nm : Nat) (tT : Nat) (mS : Nat) (cI : ClassId) (bdH : Nat) (cM : ClassId) (f : Nat → Bool) : Array Value → State → Outcome → State → Prop := va_Qi (fun r (_ : Unit) => r = (nI (lo (wbk hd 256) 256))) (fun (_ : Unit) t => va_P D vwCl [(bd, .inr (3, [.ref bdS, .int (nI hd)])), (bdS, .inr (4, [.ref bdH])), (bdH, .inl (cM, 256, .inl (aB (wbk hd 256)))), (nm, .inr (5, [.ref tT, .ref mS])), (tT, .inl (cI, 256, .inl (aN ztab)))] t.heap ∧ va_K D vwCl [(cI, .int), (cM, .boolean)] t ∧ va_D (va_A [(bd, .inr (3, [.ref bdS, .int (nI hd)])), (bdS, .inr (4, [.ref bdH])), (bdH, .inl (cM, 256, .inl (aB f))), (nm, .inr (5, [.ref tT, .ref mS])), (tT, .inl (cI, 256, .inl (aN ztab)))] sz) [(bd, .inr (3, [.ref bdS, .int (nI hd)])), (bdS, .inr (4, [.ref bdH])), (bdH, .inl (cM, 256, .inl (aB (wbk hd 256)))), (nm, .inr (5, [.ref tT, .ref mS])), (tT, .inl (cI, 256, .inl (aN ztab)))]) (va_A [(bd, .inr (3, [.ref bdS, .int (nI hd)])), (bdS, .inr (4, [.ref bdH])), (bdH, .inl (cM, 256, .inl (aB f))), (nm, .inr (5, [.ref tT, .ref mS])), (tT, .inl (cI, 256, .inl (aN ztab)))] sz)
set_option maxHeartbeats 4000000 in
set_option maxRecDepth 100000 in
theorem c_X1_worthByTrying (l : Launch) (D : va_G) (sz : Nat) (bd : Nat) (bdS : Nat) (hd : Nat) (nm : Nat) (tT : Nat) (mS : Nat) (cI : ClassId) (bdH : Nat) (cM : ClassId) (f : Nat → Bool) (hhd : hd < 65536) : Met l yX1_worthByTrying wsX1_worthByTrying rm_c_X1_worthByTrying (va_Pc [.ref bd, .ref nm] (fun U => U.heap.size = sz ∧ va_P D vwCl [(bd, .inr (3, [.ref bdS, .int (nI hd)])), (bdS, .inr (4, [.ref bdH])), (bdH, .inl (cM, 256, .inl (aB f))), (nm, .inr (5, [.ref tT, .ref mS])), (tT, .inl (cI, 256, .inl (aN ztab)))] U.heap ∧ va_K D vwCl [(cI, .int), (cM, .boolean)] U ∧ va_D (fun _ => True) [(bd, .inr (3, [.ref bdS, .int (nI hd)])), (bdS, .inr (4, [.ref bdH])), (bdH, .inl (cM, 256, .inl (aB f))), (nm, .inr (5, [.ref tT, .ref mS])), (tT, .inl (cI, 256, .inl (aN ztab)))])) (q_c_X1_worthByTrying D sz bd bdS hd nm tT mS cI bdH cM f) 0 0 (va_A [(bd, .inr (3, [.ref bdS, .int (nI hd)])), (bdS, .inr (4, [.ref bdH])), (bdH, .inl (cM, 256, .inl (aB f))), (nm, .inr (5, [.ref tT, .ref mS])), (tT, .inl (cI, 256, .inl (aN ztab)))] sz) := by
  refine Met.ofW (cc := cX1_worthByTrying) (maxL := 3) (ret := (some .int)) (by decide) rfl ?_
  intro p e s m args below meth c s₁ B hml hv
  obtain ⟨hargs, hsz, hP, hK, hD0⟩ := hv
  have hx := B.exec
  have hb := B.bytes
  have hr := B.returns
  have hts := atoms_spec (ws := wsX1_worthByTrying) B.pre
  have hown : s.vm.findClass RX1 = some m.cls := findClass_of_methodNamed B.named
  have hlocks := B.notSynchronized
  subst hsz
  have hD := hD0.self (sz := s.heap.size)
  generalize hAe : va_A [(bd, .inr (3, [.ref bdS, .int (nI hd)])), (bdS, .inr (4, [.ref bdH])), (bdH, .inl (cM, 256, .inl (aB f))), (nm, .inr (5, [.ref tT, .ref mS])), (tT, .inl (cI, 256, .inl (aN ztab)))] s.heap.size = A at hD ⊢
  have hA : ∀ q : Nat, s.heap.size ≤ q → A q := fun q h => by rw [← hAe]; exact Or.inr h
  have hS : va_S A s.heap s.heap [] := va_S.rf
  have hl := lv_entry ([.ref bd, .ref nm]) (n := 3) (Nat.le_of_ble_eq_true rfl)
  refine W.eq (g2 := F0 m 0 (lg_sl ([.ref bd, .ref nm]) ++ List.replicate (3 - (lg_sl ([.ref bd, .ref nm])).length) Slot.unset).toArray []) (by rw [hargs]; exact lg_entry_eq _ _ _) ?_
  generalize (lg_sl ([.ref bd, .ref nm]) ++ List.replicate (3 - (lg_sl ([.ref bd, .ref nm])).length) Slot.unset).toArray = ls at hl ⊢
  have hl : lv_has ls 3 [(0, .ref bd), (1, .ref nm)] := hl
  refine lv_aload_n hx hb dX1_worthByTrying_0 rfl (lv_at hl 0 rfl) ?_
  refine va_get (D := D) (ci := 3) (v := .ref bdS) (C := RX1) (T := TX1) (N := 2) hx hb hts nX1_worthByTrying_inX1 hown hK hP 0 rfl rfl 0 (by decide) (hts (.fieldLink RX1 14 "Gamefield$Board" "made" "LGamefield$NumberSet;") (by decide +kernel)) (fun _ h9 => h9) rfl dX1_worthByTrying_1 ?_
  have hPc := hP.sub (ws' := [(bdS, .inr (4, [.ref bdH])), (bdH, .inl (cM, 256, .inl (aB f)))]) [1, 2] rfl
  have hDc := hD.sub (ws' := [(bdS, .inr (4, [.ref bdH])), (bdH, .inl (cM, 256, .inl (aB f)))]) [1, 2] (by decide) rfl
  have hKc := hK.sub (tys' := [(cM, .boolean)]) [1] rfl
  have hFc := va_free (wc := [(bdS, .inr (4, [.ref bdH])), (bdH, .inl (cM, 256, .inl (aB f)))]) hD hS hA [1, 2] rfl
  refine va_callv (va_runV (As := []) (rest := []) ⟨hx, hb, hml, hown, hts⟩ (c_X2_empty l D s.heap.size bdS bdH cM f ) (cwV 0 hts gX1_worthByTrying_X2_empty rfl rfl rfl (by decide +kernel) ⟨Nat.le_of_ble_eq_true rfl, Nat.le_of_ble_eq_true rfl⟩) ⟨(z_fb2), va_recv hK hP (ci := 4) (q0 := 1) rfl rfl, fun U hU hW => ⟨rfl, by rw [hU], by rw [hU]; exact hPc, va_K.moved hW.alike hKc, hDc.weaken (fun _ _ _ _ => trivial)⟩⟩ rfl rfl hl.1 rfl (lv_room (Nat.le_of_ble_eq_true rfl)) dX1_worthByTrying_4 ⟨Nat.le_of_ble_eq_true rfl, Nat.le_of_ble_eq_true rfl⟩) hS (fun q _ h => hFc q h) hFc (fun u4 t H locs ht hvm e4 hB hz1 hk1 hS => ?_)
  obtain ⟨hP1, hK1, hD1⟩ := hB
  rw [ht] at hP1
  obtain ⟨hP, hD⟩ := va_join (wr := [(bd, .inr (3, [.ref bdS, .int (nI hd)])), (nm, .inr (5, [.ref tT, .ref mS])), (tT, .inl (cI, 256, .inl (aN ztab)))]) (w1 := [(bdS, .inr (4, [.ref bdH])), (bdH, .inl (cM, 256, .inl (aB (fun _ => false))))]) hP hD [1, 2] [0, 3, 4] rfl rfl (by decide) (by decide) hk1 hFc hP1 hD1
  have hP : va_P D vwCl [(bd, .inr (3, [.ref bdS, .int (nI hd)])), (nm, .inr (5, [.ref tT, .ref mS])), (tT, .inl (cI, 256, .inl (aN ztab))), (bdS, .inr (4, [.ref bdH])), (bdH, .inl (cM, 256, .inl (aB (fun _ => false))))] H := hP
  have hD : va_D A [(bd, .inr (3, [.ref bdS, .int (nI hd)])), (nm, .inr (5, [.ref tT, .ref mS])), (tT, .inl (cI, 256, .inl (aN ztab))), (bdS, .inr (4, [.ref bdH])), (bdH, .inl (cM, 256, .inl (aB (fun _ => false))))] := hD
  refine W.widen (k := 0) (n := 0) (Nat.le_of_ble_eq_true rfl) (Nat.le_of_ble_eq_true rfl) ?_
  refine lv_iconst (v := nI 0) hx hb dX1_worthByTrying_7 zki_0 ?_
  refine lv_istore_n (lv' := [(2, .int (nI 0)), (0, .ref bd), (1, .ref nm)]) hx hb dX1_worthByTrying_8 rfl hl (by decide) rfl (fun ls hl => ?_)
  have cut_9 : ∀ (nn9 : Nat) (i : Nat) (hi : i ≤ 256) (hn9 : 256 - i < nn9) (H : Heap) (locs : List Loc) (hP : va_P D vwCl [(bd, .inr (3, [.ref bdS, .int (nI hd)])), (bdS, .inr (4, [.ref bdH])), (bdH, .inl (cM, 256, .inl (aB (wbk hd i)))), (nm, .inr (5, [.ref tT, .ref mS])), (tT, .inl (cI, 256, .inl (aN ztab)))] H) (hD : va_D A [(bd, .inr (3, [.ref bdS, .int (nI hd)])), (bdS, .inr (4, [.ref bdH])), (bdH, .inl (cM, 256, .inl (aB (wbk hd i)))), (nm, .inr (5, [.ref tT, .ref mS])), (tT, .inl (cI, 256, .inl (aN ztab)))]) (hS : va_S A s.heap H locs) (ls : Array Slot) (hl : lv_has ls 3 [(0, .ref bd), (1, .ref nm), (2, .int (nI i))]), W p l e (headSpec wsX1_worthByTrying rm_c_X1_worthByTrying).room s m args below meth c H locs 0 0 (MQ below (q_c_X1_worthByTrying D s.heap.size bd bdS hd nm tT mS cI bdH cM f) args s 0 0 A) (F0 m 9 ls []) := by
    intro nn9
    induction nn9 with
    | zero => intro i hi hn9; exact absurd hn9 (Nat.not_lt_zero _)
    | succ nn9 ih_9 =>
      intro i hi hn9 H locs hP hD hS ls hl
      refine lv_iload_n hx hb dX1_worthByTrying_9 rfl (lv_at hl 2 rfl) ?_
      refine lv_sipush (v := nI 256) hx hb dX1_worthByTrying_10 zks_256 ?_
      refine z_cge (tgt := 47) hx hb (by omega) (by omega) dX1_worthByTrying_13 (by decide) (fun c_13 => ?_) (fun c_13 => ?_)
      · refine lv_aload_n hx hb dX1_worthByTrying_47 rfl (lv_at hl 0 rfl) ?_
        refine va_get (D := D) (ci := 3) (v := .ref bdS) (C := RX1) (T := TX1) (N := 2) hx hb hts nX1_worthByTrying_inX1 hown hK hP 0 rfl rfl 0 (by decide) (hts (.fieldLink RX1 14 "Gamefield$Board" "made" "LGamefield$NumberSet;") (by decide +kernel)) (fun _ h9 => h9) rfl dX1_worthByTrying_48 ?_
        refine z_ci (va_runV (As := []) (rest := []) ⟨hx, hb, hml, hown, hts⟩ (c_X2_leastAbsent l D bdS bdH cM (wbk hd i) ) (cwV 0 hts gX1_worthByTrying_X2_leastAbsent rfl rfl rfl (by decide +kernel) ⟨Nat.le_of_ble_eq_true rfl, Nat.le_of_ble_eq_true rfl⟩) ⟨(z_fb1), va_recv hK hP (ci := 4) (q0 := 1) rfl rfl, fun U hU hW => ⟨rfl, by rw [hU]; exact (hP.sub (ws' := [(bdS, .inr (4, [.ref bdH])), (bdH, .inl (cM, 256, .inl (aB (wbk hd i))))]) [1, 2] rfl), va_K.moved hW.alike (hK.sub [1] rfl)⟩⟩ rfl rfl hl.1 rfl (lv_room (Nat.le_of_ble_eq_true rfl)) dX1_worthByTrying_51 ⟨Nat.le_of_ble_eq_true rfl, Nat.le_of_ble_eq_true rfl⟩) (fun r51 e51 => ?_)
        subst e51
        have hP9 := hP.sub (ws' := [(bd, .inr (3, [.ref bdS, .int (nI hd)])), (bdS, .inr (4, [.ref bdH])), (bdH, .inl (cM, 256, .inl (aB (wbk hd i)))), (nm, .inr (5, [.ref tT, .ref mS])), (tT, .inl (cI, 256, .inl (aN ztab)))]) [0, 1, 2, 3, 4] rfl
        have hD9 := hD.sub (ws' := [(bd, .inr (3, [.ref bdS, .int (nI hd)])), (bdS, .inr (4, [.ref bdH])), (bdH, .inl (cM, 256, .inl (aB (wbk hd i)))), (nm, .inr (5, [.ref tT, .ref mS])), (tT, .inl (cI, 256, .inl (aN ztab)))]) [0, 1, 2, 3, 4] (by decide) rfl
        have hi9 : i = 256 := by omega
        rw [hi9] at hP9 hD9
        have hK9 := hK.sub (tys' := [(cI, .int), (cM, .boolean)]) [0, 1] rfl
        subst hAe
        refine W.widen (k := 0) (n := 0) (Nat.le_of_ble_eq_true rfl) (Nat.le_of_ble_eq_true rfl) ?_
        exact W.iret hx hb hr (fun t ht hW => ⟨⟨_, (), rfl, (by rw [show i = 256 by omega]), by rw [ht]; exact hP9, va_K.moved hW.alike hK9, hD9⟩, hS.F ht⟩) hS.2.2 dX1_worthByTrying_54
      · refine lv_aload_n hx hb dX1_worthByTrying_16 rfl (lv_at hl 0 rfl) ?_
        refine lv_iload_n hx hb dX1_worthByTrying_17 rfl (lv_at hl 2 rfl) ?_
        refine z_ci (va_runV (As := [.int (nI i)]) (rest := []) ⟨hx, hb, hml, hown, hts⟩ (c_X1_isPlay l D bd bdS hd i (by omega) (by omega)) (cwV 1 hts gX1_worthByTrying_X1_isPlay rfl rfl rfl (by decide +kernel) ⟨Nat.le_of_ble_eq_true rfl, Nat.le_of_ble_eq_true rfl⟩) ⟨(z_fb1), va_recv hK hP (ci := 3) (q0 := 0) rfl rfl, fun U hU hW => ⟨rfl, by rw [hU]; exact (hP.sub (ws' := [(bd, .inr (3, [.ref bdS, .int (nI hd)]))]) [0] rfl), va_K.moved hW.alike (hK.sub [] rfl)⟩⟩ rfl rfl hl.1 rfl (lv_room (Nat.le_of_ble_eq_true rfl)) dX1_worthByTrying_18 ⟨Nat.le_of_ble_eq_true rfl, Nat.le_of_ble_eq_true rfl⟩) (fun r18 e18 => ?_)
        subst e18
        refine z_beq (tgt := 41) hx hb dX1_worthByTrying_21 (by decide) (fun c_21 => ?_) (fun c_21 => ?_)
        · have e9 : wbk hd i = wbk hd (i + 1) := by rw [wbk, c_21]; rfl
          refine lv_iinc (v := (nI (i + 1))) (lv' := [(2, .int (nI (i + 1))), (0, .ref bd), (1, .ref nm)]) hx hb dX1_worthByTrying_41 hl (k := 2) rfl (z_inc i 1) (by decide) rfl (fun ls hl => ?_)
          refine lv_goto (tgt := 9) hx hb dX1_worthByTrying_44 (by decide) ?_
          have hP : va_P D vwCl [(bd, .inr (3, [.ref bdS, .int (nI hd)])), (bdS, .inr (4, [.ref bdH])), (bdH, .inl (cM, 256, .inl (aB (wbk hd (i + 1))))), (nm, .inr (5, [.ref tT, .ref mS])), (tT, .inl (cI, 256, .inl (aN ztab)))] H := Eq.mp (congrArg (fun z9 => va_P D vwCl [(bd, .inr (3, [.ref bdS, .int (nI hd)])), (bdS, .inr (4, [.ref bdH])), (bdH, .inl (cM, 256, .inl (aB z9))), (nm, .inr (5, [.ref tT, .ref mS])), (tT, .inl (cI, 256, .inl (aN ztab)))] H) ((show wbk hd i = wbk hd (i + 1) from e9))) hP
          have hD : va_D A [(bd, .inr (3, [.ref bdS, .int (nI hd)])), (bdS, .inr (4, [.ref bdH])), (bdH, .inl (cM, 256, .inl (aB (wbk hd (i + 1))))), (nm, .inr (5, [.ref tT, .ref mS])), (tT, .inl (cI, 256, .inl (aN ztab)))] := Eq.mp (congrArg (fun z9 => va_D A [(bd, .inr (3, [.ref bdS, .int (nI hd)])), (bdS, .inr (4, [.ref bdH])), (bdH, .inl (cM, 256, .inl (aB z9))), (nm, .inr (5, [.ref tT, .ref mS])), (tT, .inl (cI, 256, .inl (aN ztab)))]) ((show wbk hd i = wbk hd (i + 1) from e9))) hD
          exact ih_9 (i + 1) (by omega) (by omega) H locs hP hD hS ls (lv_sub hl [1, 2, 0] rfl)
        · have e9 : va_up (wbk hd i) (gw (aft hd i)) true = wbk hd (i + 1) := by rw [wbk, if_pos c_21]
          refine lv_aload_n hx hb dX1_worthByTrying_24 rfl (lv_at hl 0 rfl) ?_
          refine va_get (D := D) (ci := 3) (v := .ref bdS) (C := RX1) (T := TX1) (N := 2) hx hb hts nX1_worthByTrying_inX1 hown hK hP 0 rfl rfl 0 (by decide) (hts (.fieldLink RX1 14 "Gamefield$Board" "made" "LGamefield$NumberSet;") (by decide +kernel)) (fun _ h9 => h9) rfl dX1_worthByTrying_25 ?_
          refine lv_aload_n hx hb dX1_worthByTrying_28 rfl (lv_at hl 0 rfl) ?_
          refine lv_iload_n hx hb dX1_worthByTrying_29 rfl (lv_at hl 2 rfl) ?_
          refine z_ci (va_runV (As := [.int (nI i)]) (rest := [.ref bdS]) ⟨hx, hb, hml, hown, hts⟩ (c_X1_headsAfter l D bd bdS hd i (by omega)) (cwV 1 hts gX1_worthByTrying_X1_headsAfter rfl rfl rfl (by decide +kernel) ⟨Nat.le_of_ble_eq_true rfl, Nat.le_of_ble_eq_true rfl⟩) ⟨(z_fb1), va_recv hK hP (ci := 3) (q0 := 0) rfl rfl, fun U hU hW => ⟨rfl, by rw [hU]; exact (hP.sub (ws' := [(bd, .inr (3, [.ref bdS, .int (nI hd)]))]) [0] rfl), va_K.moved hW.alike (hK.sub [] rfl)⟩⟩ rfl rfl hl.1 rfl (lv_room (Nat.le_of_ble_eq_true rfl)) dX1_worthByTrying_30 ⟨Nat.le_of_ble_eq_true rfl, Nat.le_of_ble_eq_true rfl⟩) (fun r30 e30 => ?_)
          subst e30
          refine lv_aload_n hx hb dX1_worthByTrying_33 rfl (lv_at hl 1 rfl) ?_
          refine z_ci (va_runS (As := [.int (nI (aft hd i)), .ref nm]) (rest := [.ref bdS]) ⟨hx, hb, hml, hown, hts⟩ (c_X1_worthOf l D nm tT mS cI (aft hd i) (aft_lt hhd (by omega))) (va_cwS 2 hts gX1_worthByTrying_X1_worthOf rfl rfl rfl (by decide +kernel) ⟨Nat.le_of_ble_eq_true rfl, Nat.le_of_ble_eq_true rfl⟩) ⟨(z_fb1), fun U hU hW => ⟨rfl, by rw [hU]; exact (hP.sub (ws' := [(nm, .inr (5, [.ref tT, .ref mS])), (tT, .inl (cI, 256, .inl (aN ztab)))]) [3, 4] rfl), va_K.moved hW.alike (hK.sub [0] rfl)⟩⟩ rfl rfl hl.1 rfl (lv_room (Nat.le_of_ble_eq_true rfl)) dX1_worthByTrying_34 ⟨Nat.le_of_ble_eq_true rfl, Nat.le_of_ble_eq_true rfl⟩) (fun r34 e34 => ?_)
          subst e34
          have hn34 : gw (aft hd i) < 4 := gw_lt _
          have hPc := hP.sub (ws' := [(bdS, .inr (4, [.ref bdH])), (bdH, .inl (cM, 256, .inl (aB (wbk hd i))))]) [1, 2] rfl
          have hDc := hD.sub (ws' := [(bdS, .inr (4, [.ref bdH])), (bdH, .inl (cM, 256, .inl (aB (wbk hd i))))]) [1, 2] (by decide) rfl
          have hKc := hK.sub (tys' := [(cM, .boolean)]) [1] rfl
          have hFc := va_free (wc := [(bdS, .inr (4, [.ref bdH])), (bdH, .inl (cM, 256, .inl (aB (wbk hd i))))]) hD hS hA [1, 2] rfl
          refine va_calli (va_runV (As := [.int (nI (gw (aft hd i)))]) (rest := []) ⟨hx, hb, hml, hown, hts⟩ (c_X2_add l D H.size bdS bdH cM (wbk hd i) (gw (aft hd i)) (by omega)) (cwV 1 hts gX1_worthByTrying_X2_add rfl rfl rfl (by decide +kernel) ⟨Nat.le_of_ble_eq_true rfl, Nat.le_of_ble_eq_true rfl⟩) ⟨(z_fb2), va_recv hK hP (ci := 4) (q0 := 1) rfl rfl, fun U hU hW => ⟨rfl, by rw [hU], by rw [hU]; exact hPc, va_K.moved hW.alike hKc, hDc.weaken (fun _ _ _ _ => trivial)⟩⟩ rfl rfl hl.1 rfl (lv_room (Nat.le_of_ble_eq_true rfl)) dX1_worthByTrying_37 ⟨Nat.le_of_ble_eq_true rfl, Nat.le_of_ble_eq_true rfl⟩) hS (fun q _ h => hFc q h) hFc (fun r37 u37 t H locs ht hvm e37 hB hz1 hk1 hS => ?_)
          obtain ⟨hP1, hK1, hD1⟩ := hB
          rw [ht] at hP1
          obtain ⟨hP, hD⟩ := va_join (wr := [(bd, .inr (3, [.ref bdS, .int (nI hd)])), (nm, .inr (5, [.ref tT, .ref mS])), (tT, .inl (cI, 256, .inl (aN ztab)))]) (w1 := [(bdS, .inr (4, [.ref bdH])), (bdH, .inl (cM, 256, .inl (aB (va_up (wbk hd i) (gw (aft hd i)) true))))]) hP hD [1, 2] [0, 3, 4] rfl rfl (by decide) (by decide) hk1 hFc hP1 hD1
          have hP : va_P D vwCl [(bd, .inr (3, [.ref bdS, .int (nI hd)])), (nm, .inr (5, [.ref tT, .ref mS])), (tT, .inl (cI, 256, .inl (aN ztab))), (bdS, .inr (4, [.ref bdH])), (bdH, .inl (cM, 256, .inl (aB (va_up (wbk hd i) (gw (aft hd i)) true))))] H := hP
          have hD : va_D A [(bd, .inr (3, [.ref bdS, .int (nI hd)])), (nm, .inr (5, [.ref tT, .ref mS])), (tT, .inl (cI, 256, .inl (aN ztab))), (bdS, .inr (4, [.ref bdH])), (bdH, .inl (cM, 256, .inl (aB (va_up (wbk hd i) (gw (aft hd i)) true))))] := hD
          refine W.widen (k := 0) (n := 0) (Nat.le_of_ble_eq_true rfl) (Nat.le_of_ble_eq_true rfl) ?_
          subst e37
          refine lv_pop hx hb dX1_worthByTrying_40 rfl ?_
          refine lv_iinc (v := (nI (i + 1))) (lv' := [(2, .int (nI (i + 1))), (0, .ref bd), (1, .ref nm)]) hx hb dX1_worthByTrying_41 hl (k := 2) rfl (z_inc i 1) (by decide) rfl (fun ls hl => ?_)
          refine lv_goto (tgt := 9) hx hb dX1_worthByTrying_44 (by decide) ?_
          have hP : va_P D vwCl [(bd, .inr (3, [.ref bdS, .int (nI hd)])), (nm, .inr (5, [.ref tT, .ref mS])), (tT, .inl (cI, 256, .inl (aN ztab))), (bdS, .inr (4, [.ref bdH])), (bdH, .inl (cM, 256, .inl (aB (wbk hd (i + 1)))))] H := Eq.mp (congrArg (fun z9 => va_P D vwCl [(bd, .inr (3, [.ref bdS, .int (nI hd)])), (nm, .inr (5, [.ref tT, .ref mS])), (tT, .inl (cI, 256, .inl (aN ztab))), (bdS, .inr (4, [.ref bdH])), (bdH, .inl (cM, 256, .inl (aB z9)))] H) ((show va_up (wbk hd i) (gw (aft hd i)) true = wbk hd (i + 1) from e9))) hP
          have hD : va_D A [(bd, .inr (3, [.ref bdS, .int (nI hd)])), (nm, .inr (5, [.ref tT, .ref mS])), (tT, .inl (cI, 256, .inl (aN ztab))), (bdS, .inr (4, [.ref bdH])), (bdH, .inl (cM, 256, .inl (aB (wbk hd (i + 1)))))] := Eq.mp (congrArg (fun z9 => va_D A [(bd, .inr (3, [.ref bdS, .int (nI hd)])), (nm, .inr (5, [.ref tT, .ref mS])), (tT, .inl (cI, 256, .inl (aN ztab))), (bdS, .inr (4, [.ref bdH])), (bdH, .inl (cM, 256, .inl (aB z9)))]) ((show va_up (wbk hd i) (gw (aft hd i)) true = wbk hd (i + 1) from e9))) hD
          exact ih_9 (i + 1) (by omega) (by omega) H locs (hP.sub [0, 3, 4, 1, 2] rfl) (hD.sub [0, 3, 4, 1, 2] (by decide) rfl) hS ls (lv_sub hl [1, 2, 0] rfl)
  have hP : va_P D vwCl [(bd, .inr (3, [.ref bdS, .int (nI hd)])), (nm, .inr (5, [.ref tT, .ref mS])), (tT, .inl (cI, 256, .inl (aN ztab))), (bdS, .inr (4, [.ref bdH])), (bdH, .inl (cM, 256, .inl (aB (wbk hd 0))))] H := Eq.mp (congrArg (fun z9 => va_P D vwCl [(bd, .inr (3, [.ref bdS, .int (nI hd)])), (nm, .inr (5, [.ref tT, .ref mS])), (tT, .inl (cI, 256, .inl (aN ztab))), (bdS, .inr (4, [.ref bdH])), (bdH, .inl (cM, 256, .inl (aB z9)))] H) ((show (fun _ => false) = wbk hd 0 from rfl))) hP
  have hD : va_D A [(bd, .inr (3, [.ref bdS, .int (nI hd)])), (nm, .inr (5, [.ref tT, .ref mS])), (tT, .inl (cI, 256, .inl (aN ztab))), (bdS, .inr (4, [.ref bdH])), (bdH, .inl (cM, 256, .inl (aB (wbk hd 0))))] := Eq.mp (congrArg (fun z9 => va_D A [(bd, .inr (3, [.ref bdS, .int (nI hd)])), (nm, .inr (5, [.ref tT, .ref mS])), (tT, .inl (cI, 256, .inl (aN ztab))), (bdS, .inr (4, [.ref bdH])), (bdH, .inl (cM, 256, .inl (aB z9)))]) ((show (fun _ => false) = wbk hd 0 from rfl))) hD
  exact cut_9 ((256 - 0) + 1) 0 (by omega) (Nat.lt_succ_self _) H locs (hP.sub [0, 3, 4, 1, 2] rfl) (hD.sub [0, 3, 4, 1, 2] (by decide) rfl) hS ls (lv_sub hl [1, 2, 0] rfl)
abbrev rm_c_X1_bestPlay : Room := { frames := 3, cells := 0, slots := 0, locals := 76 }
abbrev q_c_X1_bestPlay (D : va_G) (bd : Nat) (bdS : Nat) (hd : Nat) (nm : Nat) (tT : Nat) (mS : Nat) (cI : ClassId) : Array Value → State → Outcome → State → Prop := vp_Si (fun r => r = (oI (bpk hd 256)))
set_option maxHeartbeats 4000000 in
set_option maxRecDepth 100000 in
theorem c_X1_bestPlay (l : Launch) (D : va_G) (bd : Nat) (bdS : Nat) (hd : Nat) (nm : Nat) (tT : Nat) (mS : Nat) (cI : ClassId) (hhd : hd < 65536) : Met l yX1_bestPlay wsX1_bestPlay rm_c_X1_bestPlay (va_Pc [.ref bd, .ref nm] (fun U => va_P D vwCl [(bd, .inr (3, [.ref bdS, .int (nI hd)])), (nm, .inr (5, [.ref tT, .ref mS])), (tT, .inl (cI, 256, .inl (aN ztab)))] U.heap ∧ va_K D vwCl [(cI, .int)] U)) (q_c_X1_bestPlay D bd bdS hd nm tT mS cI) 0 0 (fun _ => False) := by
  refine Met.ofW (cc := cX1_bestPlay) (maxL := 3) (ret := (some .int)) (by decide) rfl ?_
  intro p e s m args below meth c s₁ B hml hv
  obtain ⟨hargs, hP, hK⟩ := hv
  have hx := B.exec
  have hb := B.bytes
  have hr := B.returns
  have hts := atoms_spec (ws := wsX1_bestPlay) B.pre
  have hown : s.vm.findClass RX1 = some m.cls := findClass_of_methodNamed B.named
  have hlocks := B.notSynchronized
  have hl := lv_entry ([.ref bd, .ref nm]) (n := 3) (Nat.le_of_ble_eq_true rfl)
  refine W.eq (g2 := F0 m 0 (lg_sl ([.ref bd, .ref nm]) ++ List.replicate (3 - (lg_sl ([.ref bd, .ref nm])).length) Slot.unset).toArray []) (by rw [hargs]; exact lg_entry_eq _ _ _) ?_
  generalize (lg_sl ([.ref bd, .ref nm]) ++ List.replicate (3 - (lg_sl ([.ref bd, .ref nm])).length) Slot.unset).toArray = ls at hl ⊢
  have hl : lv_has ls 3 [(0, .ref bd), (1, .ref nm)] := hl
  refine lv_iconst (v := nI 0) hx hb dX1_bestPlay_0 zki_0 ?_
  refine lv_istore_n (lv' := [(2, .int (nI 0)), (0, .ref bd), (1, .ref nm)]) hx hb dX1_bestPlay_1 rfl hl (by decide) rfl (fun ls hl => ?_)
  have cut_2 : ∀ (nn9 : Nat) (i : Nat) (hi : i ≤ 256) (hno : bpk hd i = none) (hn9 : 256 - i < nn9) (ls : Array Slot) (hl : lv_has ls 3 [(0, .ref bd), (1, .ref nm), (2, .int (nI i))]), W p l e (headSpec wsX1_bestPlay rm_c_X1_bestPlay).room s m args below meth c s.heap [] 0 0 (MQ below (q_c_X1_bestPlay D bd bdS hd nm tT mS cI) args s 0 0 (fun _ => False)) (F0 m 2 ls []) := by
    intro nn9
    induction nn9 with
    | zero => intro i hi hno hn9; exact absurd hn9 (Nat.not_lt_zero _)
    | succ nn9 ih_2 =>
      intro i hi hno hn9 ls hl
      refine lv_iload_n hx hb dX1_bestPlay_2 rfl (lv_at hl 2 rfl) ?_
      refine lv_sipush (v := nI 256) hx hb dX1_bestPlay_3 zks_256 ?_
      refine z_cge (tgt := 37) hx hb (by omega) (by omega) dX1_bestPlay_6 (by decide) (fun c_6 => ?_) (fun c_6 => ?_)
      · refine lv_iconst (v := (-1)) hx hb dX1_bestPlay_37 zki_m1 ?_
        exact W.iret hx hb hr (fun t ht _ => ⟨_, rfl, (by rw [show (256 : Nat) = i by omega, hno]; rfl), ht⟩) (fun _ h => nomatch h) dX1_bestPlay_38
      · refine lv_aload_n hx hb dX1_bestPlay_9 rfl (lv_at hl 0 rfl) ?_
        refine lv_iload_n hx hb dX1_bestPlay_10 rfl (lv_at hl 2 rfl) ?_
        refine z_ci (va_runV (As := [.int (nI i)]) (rest := []) ⟨hx, hb, hml, hown, hts⟩ (c_X1_isPlay l D bd bdS hd i (by omega) (by omega)) (cwV 1 hts gX1_bestPlay_X1_isPlay rfl rfl rfl (by decide +kernel) ⟨Nat.le_of_ble_eq_true rfl, Nat.le_of_ble_eq_true rfl⟩) ⟨(z_fb1), va_recv hK hP (ci := 3) (q0 := 0) rfl rfl, fun U hU hW => ⟨rfl, by rw [hU]; exact (hP.sub (ws' := [(bd, .inr (3, [.ref bdS, .int (nI hd)]))]) [0] rfl), va_K.moved hW.alike (hK.sub [] rfl)⟩⟩ rfl rfl hl.1 rfl (lv_room (Nat.le_of_ble_eq_true rfl)) dX1_bestPlay_11 ⟨Nat.le_of_ble_eq_true rfl, Nat.le_of_ble_eq_true rfl⟩) (fun r11 e11 => ?_)
        subst e11
        refine z_beq (tgt := 31) hx hb dX1_bestPlay_14 (by decide) (fun c_14 => ?_) (fun c_14 => ?_)
        · have h9 : bpk hd (i + 1) = none := by simp [bpk, hno, c_14]
          refine lv_iinc (v := (nI (i + 1))) (lv' := [(2, .int (nI (i + 1))), (0, .ref bd), (1, .ref nm)]) hx hb dX1_bestPlay_31 hl (k := 2) rfl (z_inc i 1) (by decide) rfl (fun ls hl => ?_)
          refine lv_goto (tgt := 2) hx hb dX1_bestPlay_34 (by decide) ?_
          exact ih_2 (i + 1) (by omega) (h9) (by omega) ls (lv_sub hl [1, 2, 0] rfl)
        · refine lv_aload_n hx hb dX1_bestPlay_17 rfl (lv_at hl 0 rfl) ?_
          refine lv_iload_n hx hb dX1_bestPlay_18 rfl (lv_at hl 2 rfl) ?_
          refine z_ci (va_runV (As := [.int (nI i)]) (rest := []) ⟨hx, hb, hml, hown, hts⟩ (c_X1_headsAfter l D bd bdS hd i (by omega)) (cwV 1 hts gX1_bestPlay_X1_headsAfter rfl rfl rfl (by decide +kernel) ⟨Nat.le_of_ble_eq_true rfl, Nat.le_of_ble_eq_true rfl⟩) ⟨(z_fb1), va_recv hK hP (ci := 3) (q0 := 0) rfl rfl, fun U hU hW => ⟨rfl, by rw [hU]; exact (hP.sub (ws' := [(bd, .inr (3, [.ref bdS, .int (nI hd)]))]) [0] rfl), va_K.moved hW.alike (hK.sub [] rfl)⟩⟩ rfl rfl hl.1 rfl (lv_room (Nat.le_of_ble_eq_true rfl)) dX1_bestPlay_19 ⟨Nat.le_of_ble_eq_true rfl, Nat.le_of_ble_eq_true rfl⟩) (fun r19 e19 => ?_)
          subst e19
          refine lv_aload_n hx hb dX1_bestPlay_22 rfl (lv_at hl 1 rfl) ?_
          refine z_ci (va_runS (As := [.int (nI (aft hd i)), .ref nm]) (rest := []) ⟨hx, hb, hml, hown, hts⟩ (c_X1_worthOf l D nm tT mS cI (aft hd i) (aft_lt hhd (by omega))) (va_cwS 2 hts gX1_bestPlay_X1_worthOf rfl rfl rfl (by decide +kernel) ⟨Nat.le_of_ble_eq_true rfl, Nat.le_of_ble_eq_true rfl⟩) ⟨(z_fb1), fun U hU hW => ⟨rfl, by rw [hU]; exact (hP.sub (ws' := [(nm, .inr (5, [.ref tT, .ref mS])), (tT, .inl (cI, 256, .inl (aN ztab)))]) [1, 2] rfl), va_K.moved hW.alike hK⟩⟩ rfl rfl hl.1 rfl (lv_room (Nat.le_of_ble_eq_true rfl)) dX1_bestPlay_23 ⟨Nat.le_of_ble_eq_true rfl, Nat.le_of_ble_eq_true rfl⟩) (fun r23 e23 => ?_)
          subst e23
          have hn23 : gw (aft hd i) < 4 := gw_lt _
          refine z_fne (tgt := 31) hx hb (by omega) dX1_bestPlay_26 (by decide) (fun c_26 => ?_) (fun c_26 => ?_)
          · have h9 : bpk hd (i + 1) = none := by
              have hz : gw (aft hd i) ≠ 0 := by omega
              simp [bpk, hno, c_14, hz]
            refine lv_iinc (v := (nI (i + 1))) (lv' := [(2, .int (nI (i + 1))), (0, .ref bd), (1, .ref nm)]) hx hb dX1_bestPlay_31 hl (k := 2) rfl (z_inc i 1) (by decide) rfl (fun ls hl => ?_)
            refine lv_goto (tgt := 2) hx hb dX1_bestPlay_34 (by decide) ?_
            exact ih_2 (i + 1) (by omega) (h9) (by omega) ls (lv_sub hl [1, 2, 0] rfl)
          · refine lv_iload_n hx hb dX1_bestPlay_29 rfl (lv_at hl 2 rfl) ?_
            have h8 : bpk hd (i + 1) = some i := by simp [bpk, hno, c_14, c_26]
            exact W.iret hx hb hr (fun t ht _ => ⟨_, rfl, (by rw [bpk_up h8 (by omega)]; rfl), ht⟩) (fun _ h => nomatch h) dX1_bestPlay_30
  exact cut_2 ((256 - 0) + 1) 0 (by omega) (rfl) (Nat.lt_succ_self _) ls (lv_sub hl [1, 2, 0] rfl)
abbrev rm_c_X1_mixedInto : Room := { frames := 1, cells := 0, slots := 0, locals := 22 }
abbrev q_c_X1_mixedInto (D : va_G) (bd : Nat) (bdS : Nat) (hd : Nat) (c0 : Int64) : Array Value → State → Outcome → State → Prop := vp_Sl (fun r => r = mxr (fun q => (hd.testBit q).toNat) c0 16)
set_option maxHeartbeats 4000000 in
set_option maxRecDepth 100000 in
theorem c_X1_mixedInto (l : Launch) (D : va_G) (bd : Nat) (bdS : Nat) (hd : Nat) (c0 : Int64) (hhd : hd < 65536) : Met l yX1_mixedInto wsX1_mixedInto rm_c_X1_mixedInto (va_Pc [.ref bd, .long c0] (fun U => va_P D vwCl [(bd, .inr (3, [.ref bdS, .int (nI hd)]))] U.heap ∧ va_K D vwCl [] U ∧ va_Nw (.methodLinkNest RX1 62 yX5_mixed "Gamefield") U)) (q_c_X1_mixedInto D bd bdS hd c0) 0 0 (fun _ => False) := by
  refine Met.ofW (cc := cX1_mixedInto) (maxL := 6) (ret := (some .long)) (by decide) rfl ?_
  intro p e s m args below meth c s₁ B hml hv
  obtain ⟨hargs, hP, hK, hx0⟩ := hv
  have hx := B.exec
  have hb := B.bytes
  have hr := B.returns
  have hts := atoms_spec (ws := wsX1_mixedInto) B.pre
  have hown : s.vm.findClass RX1 = some m.cls := findClass_of_methodNamed B.named
  have hlocks := B.notSynchronized
  have hl := lv_entry ([.ref bd, .long c0]) (n := 6) (Nat.le_of_ble_eq_true rfl)
  refine W.eq (g2 := F0 m 0 (lg_sl ([.ref bd, .long c0]) ++ List.replicate (6 - (lg_sl ([.ref bd, .long c0])).length) Slot.unset).toArray []) (by rw [hargs]; exact lg_entry_eq _ _ _) ?_
  generalize (lg_sl ([.ref bd, .long c0]) ++ List.replicate (6 - (lg_sl ([.ref bd, .long c0])).length) Slot.unset).toArray = ls at hl ⊢
  have hl : lv_has ls 6 [(0, .ref bd), (1, .long c0)] := hl
  refine lv_lload_n hx hb dX1_mixedInto_0 rfl (lv_at hl 1 rfl) ?_
  refine lv_lstore_n (lv' := [(3, .long c0), (0, .ref bd), (1, .long c0)]) hx hb dX1_mixedInto_1 rfl hl (by decide) rfl (fun ls hl => ?_)
  refine lv_iconst (v := nI 0) hx hb dX1_mixedInto_2 zki_0 ?_
  refine lv_istore (lv' := [(5, .int (nI 0)), (3, .long c0), (0, .ref bd), (1, .long c0)]) hx hb dX1_mixedInto_3 hl (by decide) rfl (fun ls hl => ?_)
  have cut_5 : ∀ (nn9 : Nat) (i : Nat) (hi : i ≤ 16) (hn9 : 16 - i < nn9) (ls : Array Slot) (hl : lv_has ls 6 [(0, .ref bd), (1, .long c0), (3, .long (mxr (fun q => (hd.testBit q).toNat) c0 i)), (5, .int (nI i))]), W p l e (headSpec wsX1_mixedInto rm_c_X1_mixedInto).room s m args below meth c s.heap [] 0 0 (MQ below (q_c_X1_mixedInto D bd bdS hd c0) args s 0 0 (fun _ => False)) (F0 m 5 ls []) := by
    intro nn9
    induction nn9 with
    | zero => intro i hi hn9; exact absurd hn9 (Nat.not_lt_zero _)
    | succ nn9 ih_5 =>
      intro i hi hn9 ls hl
      refine lv_iload hx hb dX1_mixedInto_5 (lv_at hl 3 rfl) ?_
      refine lv_bipush (v := nI 16) hx hb dX1_mixedInto_7 zkb_16 ?_
      refine z_cge (tgt := 32) hx hb (by omega) (by omega) dX1_mixedInto_9 (by decide) (fun c_9 => ?_) (fun c_9 => ?_)
      · refine lv_lload_n hx hb dX1_mixedInto_32 rfl (lv_at hl 2 rfl) ?_
        exact W.lret hx hb hr (fun t ht _ => ⟨_, rfl, (by rw [show i = 16 by omega]), ht⟩) (fun _ h => nomatch h) dX1_mixedInto_33
      · refine lv_lload_n hx hb dX1_mixedInto_12 rfl (lv_at hl 2 rfl) ?_
        refine lv_aload_n hx hb dX1_mixedInto_13 rfl (lv_at hl 0 rfl) ?_
        refine va_get (D := D) (ci := 3) (v := .int (nI hd)) (C := RX1) (T := TX1) (N := 2) hx hb hts nX1_mixedInto_inX1 hown hK hP 0 rfl rfl 1 (by decide) (hts (.fieldLink RX1 18 "Gamefield$Board" "heads" "I") (by decide +kernel)) (fun _ h9 => h9) rfl dX1_mixedInto_14 ?_
        refine lv_iload hx hb dX1_mixedInto_17 (lv_at hl 3 rfl) ?_
        refine z_shr hx hb (by omega) (by omega) dX1_mixedInto_19 ?_
        refine lv_iconst (v := nI 1) hx hb dX1_mixedInto_20 zki_1 ?_
        refine z_and hx hb dX1_mixedInto_21 ?_
        have hb22 : (hd / 2 ^ i) &&& 1 < 2 := by rw [Nat.and_one_is_mod]; omega
        refine z_cl (va_runSN (As := [.long (mxr (fun q => (hd.testBit q).toNat) c0 i), .int (nI ((hd / 2 ^ i) &&& 1))]) (rest := []) ⟨hx, hb, hml, hown, hts⟩ (c_X5_mixed l D (mxr (fun q => (hd.testBit q).toNat) c0 i) ((hd / 2 ^ i) &&& 1) (by omega)) ⟨va_cnB (host := "Gamefield") 2 hts gX1_mixedInto_X5_mixed_n62 rfl rfl rfl hx0 (hts (.initialized RX5) (by decide +kernel)) (by decide +kernel) ⟨Nat.le_of_ble_eq_true rfl, Nat.le_of_ble_eq_true rfl⟩, hts (.static yX5_mixed) (by decide +kernel), trivial⟩ ⟨z_fb0, fun U hU hW => ⟨rfl, trivial⟩⟩ rfl rfl hl.1 rfl (lv_room (Nat.le_of_ble_eq_true rfl)) dX1_mixedInto_22 ⟨Nat.le_of_ble_eq_true rfl, Nat.le_of_ble_eq_true rfl⟩) (fun r22 e22 => ?_)
        subst e22
        refine lv_lstore_n (lv' := [(3, .long (mx (mxr (fun q => (hd.testBit q).toNat) c0 i) ((hd / 2 ^ i) &&& 1))), (0, .ref bd), (1, .long c0), (5, .int (nI i))]) hx hb dX1_mixedInto_25 rfl hl (by decide) rfl (fun ls hl => ?_)
        refine lv_iinc (v := (nI (i + 1))) (lv' := [(5, .int (nI (i + 1))), (3, .long (mx (mxr (fun q => (hd.testBit q).toNat) c0 i) ((hd / 2 ^ i) &&& 1))), (0, .ref bd), (1, .long c0)]) hx hb dX1_mixedInto_26 hl (k := 3) rfl (z_inc i 1) (by decide) rfl (fun ls hl => ?_)
        refine lv_goto (tgt := 5) hx hb dX1_mixedInto_29 (by decide) ?_
        have hl : lv_has ls 6 [(5, .int (nI (i + 1))), (3, .long (mxr (fun q => (hd.testBit q).toNat) c0 (i + 1))), (0, .ref bd), (1, .long c0)] := Eq.mp (congrArg (fun z9 => lv_has ls 6 [(5, .int (nI (i + 1))), (3, .long z9), (0, .ref bd), (1, .long c0)]) ((show mx (mxr (fun q => (hd.testBit q).toNat) c0 i) ((hd / 2 ^ i) &&& 1) = mxr (fun q => (hd.testBit q).toNat) c0 (i + 1) from by rw [bit1]; rfl))) hl
        exact ih_5 (i + 1) (by omega) (by omega) ls (lv_sub hl [2, 3, 1, 0] rfl)
  have hl : lv_has ls 6 [(5, .int (nI 0)), (3, .long (mxr (fun q => (hd.testBit q).toNat) c0 0)), (0, .ref bd), (1, .long c0)] := Eq.mp (congrArg (fun z9 => lv_has ls 6 [(5, .int (nI 0)), (3, .long z9), (0, .ref bd), (1, .long c0)]) ((show c0 = mxr (fun q => (hd.testBit q).toNat) c0 0 from rfl))) hl
  exact cut_5 ((16 - 0) + 1) 0 (by omega) (Nat.lt_succ_self _) ls (lv_sub hl [2, 3, 1, 0] rfl)
