/-! Worth, play, best and answer of the reference. -/
theorem bpk_some {b k : Nat} : ∀ n, k < n → isp b k = true → gw (aft b k) = 0 → (bpk b n).isSome = true
  | 0, h, _, _ => by omega
  | n + 1, h, hp, e => by
    unfold bpk
    split
    · assumption
    · rename_i h0
      by_cases q : k = n
      · subst q; rw [if_pos ⟨hp, e⟩]; rfl
      · exact absurd (bpk_some n (by omega) hp e) h0
theorem bpk_is {b t : Nat} : ∀ n, bpk b n = some t → t < n ∧ isp b t = true ∧ gw (aft b t) = 0 ∧ ∀ k, k < t → isp b k = true → gw (aft b k) ≠ 0
  | 0, h => by cases h
  | n + 1, h => by
    unfold bpk at h
    split at h
    · have := bpk_is n h
      exact ⟨by omega, this.2⟩
    · rename_i h0
      split at h
      · rename_i h1
        cases h
        exact ⟨by omega, h1.1, h1.2, fun k hk hp e => h0 (bpk_some _ hk hp e)⟩
      · cases h
theorem bpk_no {b n : Nat} (h : bpk b n = none) : ∀ k, k < n → isp b k = true → gw (aft b k) ≠ 0 := fun k hk hp e => by
  have := bpk_some n hk hp e
  rw [h] at this; cases this
theorem nI_nm1 : ∀ t, t < 256 → ¬ nI t = -1 := by decide +kernel
theorem isp_of {b k : Nat} (h1 : b.testBit (4 * (k / 64) + k / 16 % 4) = true) (h2 : k / 4 % 4 < k / 64) (h3 : k % 4 < k / 16 % 4) : isp b k = true := by
  unfold isp; rw [h1, decide_eq_true h2, decide_eq_true h3]; rfl
theorem isp_1 {b k : Nat} (h1 : b.testBit (4 * (k / 64) + k / 16 % 4) = false) : isp b k = false := by
  unfold isp; rw [h1]; rfl
theorem isp_2 {b k : Nat} (h1 : k / 64 ≤ k / 4 % 4) : isp b k = false := by
  unfold isp; rw [decide_eq_false (p := k / 4 % 4 < k / 64) (by omega)]; simp
theorem isp_3 {b k : Nat} (h1 : k / 16 % 4 ≤ k % 4) : isp b k = false := by
  unfold isp; rw [decide_eq_false (p := k % 4 < k / 16 % 4) (by omega)]; simp
/-- the memo and its cost after the codes below n -/
def wbi (b : Nat) (w : Nat → Nat) : Nat → Nat → Nat
  | 0 => w
  | k + 1 => if isp b k = true then wmo 512 (aft b k) (wbi b w k) else wbi b w k
def cbi (b : Nat) (w : Nat → Nat) : Nat → Nat
  | 0 => 0
  | k + 1 => if isp b k = true then cbi b w k + wco 512 (aft b k) (wbi b w k) else cbi b w k
theorem wbi_inv {b : Nat} {w : Nat → Nat} (hb : b < 65536) (h : winv w) : ∀ n, n ≤ 256 → winv (wbi b w n)
  | 0, _ => h
  | n + 1, hn => by
    unfold wbi
    split
    · exact wmo_inv _ _ _ (aft_lt hb (by omega)) (wbi_inv hb h n (by omega))
    · exact wbi_inv hb h n (by omega)
theorem cbi_mono (b : Nat) (w : Nat → Nat) {m n : Nat} (h : m ≤ n) : cbi b w m ≤ cbi b w n := by
  induction n with
  | zero => rw [show m = 0 by omega]; exact Nat.le_refl _
  | succ n ih =>
    rcases Nat.lt_or_ge m (n + 1) with q | q
    · refine Nat.le_trans (ih (by omega)) ?_
      rw [cbi]; split <;> omega
    · rw [show m = n + 1 by omega]; exact Nat.le_refl _
theorem cbi_fz {b : Nat} {w : Nat → Nat} (hb : b < 65536) : ∀ n, n ≤ 256 → fzm (wbi b w n) = fzm w + cbi b w n
  | 0, _ => (Nat.add_zero _).symm
  | n + 1, hn => by
    unfold wbi cbi
    split
    · rw [wco_fz _ _ _ (aft_lt hb (by omega)), cbi_fz hb n (by omega)]; omega
    · exact cbi_fz hb n (by omega)
theorem nX6_worth_inX6 : ∀ w ∈ u_ws RX6 TX6 8, w ∈ wsX6_worth := by decide +kernel
theorem nX6_best_inX6 : ∀ w ∈ u_ws RX6 TX6 8, w ∈ wsX6_best := by decide +kernel
theorem nX6_answer_inX6 : ∀ w ∈ u_ws RX6 TX6 8, w ∈ wsX6_answer := by decide +kernel
abbrev rm_c_X6_worth (hd : Nat) (wf : Nat → Nat) : Room := { frames := 519, cells := (wco 512 hd wf), slots := (40 * wco 512 hd wf), locals := 14011 }
abbrev q_c_X6_worth (D : va_G) (sz : Nat) (mo : Nat) (ra : Nat) (ca : Nat) (ha : Nat) (ba : Nat) (wa : Nat) (kp : Nat) (hd : Nat) (th : Nat) (kw : ClassId) (wf : Nat → Nat) : Array Value → State → Outcome → State → Prop := va_Qi (fun r (_ : Unit) => r = (nI (gw hd))) (fun (_ : Unit) t => va_P D vwCl [(mo, .inr (8, [.int (nI 0), .ref ra, .ref ca, .ref ha, .int (nI kp), .ref ba, .int (nI hd), .ref wa])), (wa, .inl (kw, 512, .inl (aN (wmo 512 hd wf))))] t.heap ∧ va_K D vwCl [(kw, .int)] t ∧ va_D (va_A [(mo, .inr (8, [.int (nI th), .ref ra, .ref ca, .ref ha, .int (nI kp), .ref ba, .int (nI hd), .ref wa])), (wa, .inl (kw, 512, .inl (aN wf)))] sz) [(mo, .inr (8, [.int (nI 0), .ref ra, .ref ca, .ref ha, .int (nI kp), .ref ba, .int (nI hd), .ref wa])), (wa, .inl (kw, 512, .inl (aN (wmo 512 hd wf))))]) (va_A [(mo, .inr (8, [.int (nI th), .ref ra, .ref ca, .ref ha, .int (nI kp), .ref ba, .int (nI hd), .ref wa])), (wa, .inl (kw, 512, .inl (aN wf)))] sz)
set_option maxHeartbeats 4000000 in
set_option maxRecDepth 100000 in
theorem c_X6_worth (l : Launch) (D : va_G) (sz : Nat) (mo : Nat) (ra : Nat) (ca : Nat) (ha : Nat) (ba : Nat) (wa : Nat) (kp : Nat) (hd : Nat) (th : Nat) (kw : ClassId) (wf : Nat → Nat) (hhd : hd < 65536) (hwi : winv wf) : Met l yX6_worth wsX6_worth (rm_c_X6_worth hd wf) (va_Pc [.ref mo] (fun U => U.heap.size = sz ∧ va_P D vwCl [(mo, .inr (8, [.int (nI th), .ref ra, .ref ca, .ref ha, .int (nI kp), .ref ba, .int (nI hd), .ref wa])), (wa, .inl (kw, 512, .inl (aN wf)))] U.heap ∧ va_K D vwCl [(kw, .int)] U ∧ va_D (fun _ => True) [(mo, .inr (8, [.int (nI th), .ref ra, .ref ca, .ref ha, .int (nI kp), .ref ba, .int (nI hd), .ref wa])), (wa, .inl (kw, 512, .inl (aN wf)))])) (q_c_X6_worth D sz mo ra ca ha ba wa kp hd th kw wf) (wco 512 hd wf) (40 * wco 512 hd wf) (va_A [(mo, .inr (8, [.int (nI th), .ref ra, .ref ca, .ref ha, .int (nI kp), .ref ba, .int (nI hd), .ref wa])), (wa, .inl (kw, 512, .inl (aN wf)))] sz) := by
  refine Met.ofW (cc := cX6_worth) (maxL := 1) (ret := (some .int)) (by decide) rfl ?_
  intro p e s m args below meth c s₁ B hml hv
  obtain ⟨hargs, hsz, hP, hK, hD0⟩ := hv
  have hx := B.exec
  have hb := B.bytes
  have hr := B.returns
  have hts := atoms_spec (ws := wsX6_worth) B.pre
  have hown : s.vm.findClass RX6 = some m.cls := findClass_of_methodNamed B.named
  have hlocks := B.notSynchronized
  subst hsz
  have hD := hD0.self (sz := s.heap.size)
  generalize hAe : va_A [(mo, .inr (8, [.int (nI th), .ref ra, .ref ca, .ref ha, .int (nI kp), .ref ba, .int (nI hd), .ref wa])), (wa, .inl (kw, 512, .inl (aN wf)))] s.heap.size = A at hD ⊢
  have hA : ∀ q : Nat, s.heap.size ≤ q → A q := fun q h => by rw [← hAe]; exact Or.inr h
  have hS : va_S A s.heap s.heap [] := va_S.rf
  have hl := lv_entry ([.ref mo]) (n := 1) (Nat.le_of_ble_eq_true rfl)
  refine W.eq (g2 := F0 m 0 (lg_sl ([.ref mo]) ++ List.replicate (1 - (lg_sl ([.ref mo])).length) Slot.unset).toArray []) (by rw [hargs]; exact lg_entry_eq _ _ _) ?_
  generalize (lg_sl ([.ref mo]) ++ List.replicate (1 - (lg_sl ([.ref mo])).length) Slot.unset).toArray = ls at hl ⊢
  have hl : lv_has ls 1 [(0, .ref mo)] := hl
  refine lv_aload_n hx hb dX6_worth_0 rfl (lv_at hl 0 rfl) ?_
  refine lv_iconst (v := nI 0) hx hb dX6_worth_1 zki_0 ?_
  refine va_put (D := D) (ci := 8) (v := .int (nI 0)) (ty := .int) (C := RX6) (T := TX6) (N := 8) hx hb hts nX6_worth_inX6 tyX6 tyX6_ok nmX6 hown hK hP hD hS 0 rfl rfl 0 (by decide) (hts (.fieldLink RX6 26 "GamefieldModel" "thrown" "I") (by decide +kernel)) (fun _ h9 => h9) rfl (by decide +kernel) rfl rfl (Nat.le_of_ble_eq_true rfl) dX6_worth_2 (fun H locs hP hD hS => ?_)
  have hP : va_P D vwCl [(mo, .inr (8, [.int (nI 0), .ref ra, .ref ca, .ref ha, .int (nI kp), .ref ba, .int (nI hd), .ref wa])), (wa, .inl (kw, 512, .inl (aN wf)))] H := hP
  have hD : va_D A [(mo, .inr (8, [.int (nI 0), .ref ra, .ref ca, .ref ha, .int (nI kp), .ref ba, .int (nI hd), .ref wa])), (wa, .inl (kw, 512, .inl (aN wf)))] := hD
  refine lv_aload_n hx hb dX6_worth_5 rfl (lv_at hl 0 rfl) ?_
  refine lv_aload_n hx hb dX6_worth_6 rfl (lv_at hl 0 rfl) ?_
  refine va_get (D := D) (ci := 8) (v := .int (nI hd)) (C := RX6) (T := TX6) (N := 8) hx hb hts nX6_worth_inX6 hown hK hP 0 rfl rfl 6 (by decide) (hts (.fieldLink RX6 111 "GamefieldModel" "board" "I") (by decide +kernel)) (fun _ h9 => h9) rfl dX6_worth_7 ?_
  have hPc := hP.sub (ws' := [(mo, .inr (8, [.int (nI 0), .ref ra, .ref ca, .ref ha, .int (nI kp), .ref ba, .int (nI hd), .ref wa])), (wa, .inl (kw, 512, .inl (aN wf)))]) [0, 1] rfl
  have hDc := hD.sub (ws' := [(mo, .inr (8, [.int (nI 0), .ref ra, .ref ca, .ref ha, .int (nI kp), .ref ba, .int (nI hd), .ref wa])), (wa, .inl (kw, 512, .inl (aN wf)))]) [0, 1] (by decide) rfl
  have hKc := hK.sub (tys' := [(kw, .int)]) [0] rfl
  have hFc := va_free (wc := [(mo, .inr (8, [.int (nI 0), .ref ra, .ref ca, .ref ha, .int (nI kp), .ref ba, .int (nI hd), .ref wa])), (wa, .inl (kw, 512, .inl (aN wf)))]) hD hS hA [0, 1] rfl
  refine va_calli (va_runV (As := [.int (nI hd)]) (rest := []) ⟨hx, hb, hml, hown, hts⟩ (c_X6_worthOf_ok l D H.size mo ra ca ha ba wa kp hd 0 kw wf hd (by omega) (by omega)) (cwV 1 hts gX6_worth_X6_worthOf rfl rfl rfl (by decide +kernel) ⟨Nat.le_of_ble_eq_true rfl, Nat.le_of_ble_eq_true rfl⟩) ⟨(z_fb2), va_recv hK hP (ci := 8) (q0 := 0) rfl rfl, fun U hU hW => ⟨rfl, by rw [hU], by rw [hU]; exact hPc, va_K.moved hW.alike hKc, hDc.weaken (fun _ _ _ _ => trivial)⟩⟩ rfl rfl hl.1 rfl (lv_room (Nat.le_of_ble_eq_true rfl)) dX6_worth_10 ⟨z_room (c := (wco 512 hd wf)) rfl (by omega), z_room (c := (40 * wco 512 hd wf)) rfl (by omega)⟩) hS (fun q _ h => hFc q h) hFc (fun r10 u10 t H locs ht hvm e10 hB hz1 hk1 hS => ?_)
  obtain ⟨hP1, hK1, hD1⟩ := hB
  rw [ht] at hP1
  obtain ⟨hP, hD⟩ := va_join (wr := []) (w1 := [(mo, .inr (8, [.int (nI 0), .ref ra, .ref ca, .ref ha, .int (nI kp), .ref ba, .int (nI hd), .ref wa])), (wa, .inl (kw, 512, .inl (aN (wmo 512 hd wf))))]) hP hD [0, 1] [] rfl rfl (by decide) (by decide) hk1 hFc hP1 hD1
  have hP : va_P D vwCl [(mo, .inr (8, [.int (nI 0), .ref ra, .ref ca, .ref ha, .int (nI kp), .ref ba, .int (nI hd), .ref wa])), (wa, .inl (kw, 512, .inl (aN (wmo 512 hd wf))))] H := hP
  have hD : va_D A [(mo, .inr (8, [.int (nI 0), .ref ra, .ref ca, .ref ha, .int (nI kp), .ref ba, .int (nI hd), .ref wa])), (wa, .inl (kw, 512, .inl (aN (wmo 512 hd wf))))] := hD
  refine W.widen (k := (wco 512 hd wf)) (n := (40 * wco 512 hd wf)) (by omega) (by omega) ?_
  subst e10
  have hg10 : gw (hd) < 4 := gw_lt _
  have hP9 := hP.sub (ws' := [(mo, .inr (8, [.int (nI 0), .ref ra, .ref ca, .ref ha, .int (nI kp), .ref ba, .int (nI hd), .ref wa])), (wa, .inl (kw, 512, .inl (aN (wmo 512 hd wf))))]) [0, 1] rfl
  have hD9 := hD.sub (ws' := [(mo, .inr (8, [.int (nI 0), .ref ra, .ref ca, .ref ha, .int (nI kp), .ref ba, .int (nI hd), .ref wa])), (wa, .inl (kw, 512, .inl (aN (wmo 512 hd wf))))]) [0, 1] (by decide) rfl
  have hK9 := hK.sub (tys' := [(kw, .int)]) [0] rfl
  subst hAe
  refine W.widen (k := (wco 512 hd wf)) (n := (40 * wco 512 hd wf)) (by omega) (by omega) ?_
  exact W.iret hx hb hr (fun t ht hW => ⟨⟨_, (), rfl, (rfl), by rw [ht]; exact hP9, va_K.moved hW.alike hK9, hD9⟩, hS.F ht⟩) hS.2.2 dX6_worth_13
abbrev rm_c_X6_play_ok (hd : Nat) (wf : Nat → Nat) (x y u v : Nat) : Room := { frames := 519, cells := (wco 512 (trn hd x y u v) wf), slots := (40 * wco 512 (trn hd x y u v) wf), locals := 14011 }
abbrev q_c_X6_play_ok (D : va_G) (sz : Nat) (mo : Nat) (ra : Nat) (ca : Nat) (ha : Nat) (ba : Nat) (wa : Nat) (kp : Nat) (hd : Nat) (th : Nat) (kw : ClassId) (wf : Nat → Nat) (x : Nat) (y : Nat) (u : Nat) (v : Nat) : Array Value → State → Outcome → State → Prop := va_Qi (fun r (_ : Unit) => r = (nI (gw (trn hd x y u v)))) (fun (_ : Unit) t => va_P D vwCl [(mo, .inr (8, [.int (nI 0), .ref ra, .ref ca, .ref ha, .int (nI kp), .ref ba, .int (nI (trn hd x y u v)), .ref wa])), (wa, .inl (kw, 512, .inl (aN (wmo 512 (trn hd x y u v) wf))))] t.heap ∧ va_K D vwCl [(kw, .int)] t ∧ va_D (va_A [(mo, .inr (8, [.int (nI th), .ref ra, .ref ca, .ref ha, .int (nI kp), .ref ba, .int (nI hd), .ref wa])), (wa, .inl (kw, 512, .inl (aN wf)))] sz) [(mo, .inr (8, [.int (nI 0), .ref ra, .ref ca, .ref ha, .int (nI kp), .ref ba, .int (nI (trn hd x y u v)), .ref wa])), (wa, .inl (kw, 512, .inl (aN (wmo 512 (trn hd x y u v) wf))))]) (va_A [(mo, .inr (8, [.int (nI th), .ref ra, .ref ca, .ref ha, .int (nI kp), .ref ba, .int (nI hd), .ref wa])), (wa, .inl (kw, 512, .inl (aN wf)))] sz)
set_option maxHeartbeats 4000000 in
set_option maxRecDepth 100000 in
theorem c_X6_play_ok (l : Launch) (D : va_G) (sz : Nat) (mo : Nat) (ra : Nat) (ca : Nat) (ha : Nat) (ba : Nat) (wa : Nat) (kp : Nat) (hd : Nat) (th : Nat) (kw : ClassId) (wf : Nat → Nat) (x : Nat) (y : Nat) (u : Nat) (v : Nat) (hhd : hd < 65536) (hwi : winv wf) (hx4 : x < 4) (hy4 : y < 4) (hu4 : u < x) (hv4 : v < y) (htb : hd.testBit (4 * x + y) = true) : Met l yX6_play wsX6_play (rm_c_X6_play_ok hd wf x y u v) (va_Pc [.ref mo, .int (nI x), .int (nI y), .int (nI u), .int (nI v)] (fun U => U.heap.size = sz ∧ va_P D vwCl [(mo, .inr (8, [.int (nI th), .ref ra, .ref ca, .ref ha, .int (nI kp), .ref ba, .int (nI hd), .ref wa])), (wa, .inl (kw, 512, .inl (aN wf)))] U.heap ∧ va_K D vwCl [(kw, .int)] U ∧ va_D (fun _ => True) [(mo, .inr (8, [.int (nI th), .ref ra, .ref ca, .ref ha, .int (nI kp), .ref ba, .int (nI hd), .ref wa])), (wa, .inl (kw, 512, .inl (aN wf)))])) (q_c_X6_play_ok D sz mo ra ca ha ba wa kp hd th kw wf x y u v) (wco 512 (trn hd x y u v) wf) (40 * wco 512 (trn hd x y u v) wf) (va_A [(mo, .inr (8, [.int (nI th), .ref ra, .ref ca, .ref ha, .int (nI kp), .ref ba, .int (nI hd), .ref wa])), (wa, .inl (kw, 512, .inl (aN wf)))] sz) := by
  refine Met.ofW (cc := cX6_play) (maxL := 5) (ret := (some .int)) (by decide) rfl ?_
  intro p e s m args below meth c s₁ B hml hv
  obtain ⟨hargs, hsz, hP, hK, hD0⟩ := hv
  have hx := B.exec
  have hb := B.bytes
  have hr := B.returns
  have hts := atoms_spec (ws := wsX6_play) B.pre
  have hown : s.vm.findClass RX6 = some m.cls := findClass_of_methodNamed B.named
  have hlocks := B.notSynchronized
  subst hsz
  have hD := hD0.self (sz := s.heap.size)
  generalize hAe : va_A [(mo, .inr (8, [.int (nI th), .ref ra, .ref ca, .ref ha, .int (nI kp), .ref ba, .int (nI hd), .ref wa])), (wa, .inl (kw, 512, .inl (aN wf)))] s.heap.size = A at hD ⊢
  have hA : ∀ q : Nat, s.heap.size ≤ q → A q := fun q h => by rw [← hAe]; exact Or.inr h
  have hS : va_S A s.heap s.heap [] := va_S.rf
  have hl := lv_entry ([.ref mo, .int (nI x), .int (nI y), .int (nI u), .int (nI v)]) (n := 5) (Nat.le_of_ble_eq_true rfl)
  refine W.eq (g2 := F0 m 0 (lg_sl ([.ref mo, .int (nI x), .int (nI y), .int (nI u), .int (nI v)]) ++ List.replicate (5 - (lg_sl ([.ref mo, .int (nI x), .int (nI y), .int (nI u), .int (nI v)])).length) Slot.unset).toArray []) (by rw [hargs]; exact lg_entry_eq _ _ _) ?_
  generalize (lg_sl ([.ref mo, .int (nI x), .int (nI y), .int (nI u), .int (nI v)]) ++ List.replicate (5 - (lg_sl ([.ref mo, .int (nI x), .int (nI y), .int (nI u), .int (nI v)])).length) Slot.unset).toArray = ls at hl ⊢
  have hl : lv_has ls 5 [(0, .ref mo), (1, .int (nI x)), (2, .int (nI y)), (3, .int (nI u)), (4, .int (nI v))] := hl
  refine lv_aload_n hx hb dX6_play_0 rfl (lv_at hl 0 rfl) ?_
  refine lv_iconst (v := nI 0) hx hb dX6_play_1 zki_0 ?_
  refine va_put (D := D) (ci := 8) (v := .int (nI 0)) (ty := .int) (C := RX6) (T := TX6) (N := 8) hx hb hts nX6_play_inX6 tyX6 tyX6_ok nmX6 hown hK hP hD hS 0 rfl rfl 0 (by decide) (hts (.fieldLink RX6 26 "GamefieldModel" "thrown" "I") (by decide +kernel)) (fun _ h9 => h9) rfl (by decide +kernel) rfl rfl (Nat.le_of_ble_eq_true rfl) dX6_play_2 (fun H locs hP hD hS => ?_)
  have hP : va_P D vwCl [(mo, .inr (8, [.int (nI 0), .ref ra, .ref ca, .ref ha, .int (nI kp), .ref ba, .int (nI hd), .ref wa])), (wa, .inl (kw, 512, .inl (aN wf)))] H := hP
  have hD : va_D A [(mo, .inr (8, [.int (nI 0), .ref ra, .ref ca, .ref ha, .int (nI kp), .ref ba, .int (nI hd), .ref wa])), (wa, .inl (kw, 512, .inl (aN wf)))] := hD
  refine lv_aload_n hx hb dX6_play_5 rfl (lv_at hl 0 rfl) ?_
  refine lv_iload_n hx hb dX6_play_6 rfl (lv_at hl 1 rfl) ?_
  refine lv_iload_n hx hb dX6_play_7 rfl (lv_at hl 2 rfl) ?_
  refine z_ci (va_runS (As := [.int (nI x), .int (nI y)]) (rest := [.ref mo]) ⟨hx, hb, hml, hown, hts⟩ (c_X6_isPlace_ok l D x y (by omega) (by omega)) (va_cwS 2 hts gX6_play_X6_isPlace rfl rfl rfl (by decide +kernel) ⟨Nat.le_of_ble_eq_true rfl, Nat.le_of_ble_eq_true rfl⟩) ⟨z_fb0, fun U hU hW => ⟨rfl, trivial⟩⟩ rfl rfl hl.1 rfl (lv_room (Nat.le_of_ble_eq_true rfl)) dX6_play_8 ⟨z_room (c := (wco 512 (trn hd x y u v) wf)) rfl (by omega), z_room (c := (40 * wco 512 (trn hd x y u v) wf)) rfl (by omega)⟩) (fun r8 e8 => ?_)
  subst e8
  refine z_beq (tgt := 23) hx hb dX6_play_11 (by decide) (fun c_11 => absurd c_11 (by decide)) (fun c_11 => ?_)
  refine lv_iload_n hx hb dX6_play_14 rfl (lv_at hl 3 rfl) ?_
  refine lv_iload hx hb dX6_play_15 (lv_at hl 4 rfl) ?_
  refine z_ci (va_runS (As := [.int (nI u), .int (nI v)]) (rest := [.ref mo]) ⟨hx, hb, hml, hown, hts⟩ (c_X6_isPlace_ok l D u v (by omega) (by omega)) (va_cwS 2 hts gX6_play_X6_isPlace rfl rfl rfl (by decide +kernel) ⟨Nat.le_of_ble_eq_true rfl, Nat.le_of_ble_eq_true rfl⟩) ⟨z_fb0, fun U hU hW => ⟨rfl, trivial⟩⟩ rfl rfl hl.1 rfl (lv_room (Nat.le_of_ble_eq_true rfl)) dX6_play_17 ⟨z_room (c := (wco 512 (trn hd x y u v) wf)) rfl (by omega), z_room (c := (40 * wco 512 (trn hd x y u v) wf)) rfl (by omega)⟩) (fun r17 e17 => ?_)
  subst e17
  refine z_bne (tgt := 27) hx hb dX6_play_20 (by decide) (fun c_20 => ?_) (fun c_20 => absurd c_20 (by decide))
  refine lv_iconst (v := nI 0) hx hb dX6_play_27 zki_0 ?_
  refine lv_iconst (v := nI 1) hx hb dX6_play_28 zki_1 ?_
  have hPc := hP.sub (ws' := [(mo, .inr (8, [.int (nI 0), .ref ra, .ref ca, .ref ha, .int (nI kp), .ref ba, .int (nI hd), .ref wa]))]) [0] rfl
  have hDc := hD.sub (ws' := [(mo, .inr (8, [.int (nI 0), .ref ra, .ref ca, .ref ha, .int (nI kp), .ref ba, .int (nI hd), .ref wa]))]) [0] (by decide) rfl
  have hKc := hK.sub (tys' := []) [] rfl
  have hFc := va_free (wc := [(mo, .inr (8, [.int (nI 0), .ref ra, .ref ca, .ref ha, .int (nI kp), .ref ba, .int (nI hd), .ref wa]))]) hD hS hA [0] rfl
  refine va_calli (va_runV (As := [.int (nI 0), .int (nI 1)]) (rest := []) ⟨hx, hb, hml, hown, hts⟩ (c_X6_fails_false l D H.size mo ra ca ha ba wa kp hd 1 (by omega) (by omega)) (cwV 2 hts gX6_play_X6_fails rfl rfl rfl (by decide +kernel) ⟨Nat.le_of_ble_eq_true rfl, Nat.le_of_ble_eq_true rfl⟩) ⟨(z_fb2), va_recv hK hP (ci := 8) (q0 := 0) rfl rfl, fun U hU hW => ⟨rfl, by rw [hU], by rw [hU]; exact hPc, va_K.moved hW.alike hKc, hDc.weaken (fun _ _ _ _ => trivial)⟩⟩ rfl rfl hl.1 rfl (lv_room (Nat.le_of_ble_eq_true rfl)) dX6_play_29 ⟨z_room (c := (wco 512 (trn hd x y u v) wf)) rfl (by omega), z_room (c := (40 * wco 512 (trn hd x y u v) wf)) rfl (by omega)⟩) hS (fun q _ h => hFc q h) hFc (fun r29 u29 t H locs ht hvm e29 hB hz1 hk1 hS => ?_)
  obtain ⟨hP1, hK1, hD1⟩ := hB
  rw [ht] at hP1
  obtain ⟨hP, hD⟩ := va_join (wr := [(wa, .inl (kw, 512, .inl (aN wf)))]) (w1 := [(mo, .inr (8, [.int (nI 0), .ref ra, .ref ca, .ref ha, .int (nI kp), .ref ba, .int (nI hd), .ref wa]))]) hP hD [0] [1] rfl rfl (by decide) (by decide) hk1 hFc hP1 hD1
  have hP : va_P D vwCl [(wa, .inl (kw, 512, .inl (aN wf))), (mo, .inr (8, [.int (nI 0), .ref ra, .ref ca, .ref ha, .int (nI kp), .ref ba, .int (nI hd), .ref wa]))] H := hP
  have hD : va_D A [(wa, .inl (kw, 512, .inl (aN wf))), (mo, .inr (8, [.int (nI 0), .ref ra, .ref ca, .ref ha, .int (nI kp), .ref ba, .int (nI hd), .ref wa]))] := hD
  refine W.widen (k := 0) (n := 0) (Nat.le_of_ble_eq_true rfl) (Nat.le_of_ble_eq_true rfl) ?_
  subst e29
  refine z_bne (tgt := 71) hx hb dX6_play_32 (by decide) (fun c_32 => absurd c_32 (by decide)) (fun c_32 => ?_)
  refine lv_aload_n hx hb dX6_play_35 rfl (lv_at hl 0 rfl) ?_
  refine lv_aload_n hx hb dX6_play_36 rfl (lv_at hl 0 rfl) ?_
  refine va_get (D := D) (ci := 8) (v := .int (nI hd)) (C := RX6) (T := TX6) (N := 8) hx hb hts nX6_play_inX6 hown hK hP 1 rfl rfl 6 (by decide) (hts (.fieldLink RX6 111 "GamefieldModel" "board" "I") (by decide +kernel)) (fun _ h9 => h9) rfl dX6_play_37 ?_
  refine lv_iload_n hx hb dX6_play_40 rfl (lv_at hl 1 rfl) ?_
  refine lv_iload_n hx hb dX6_play_41 rfl (lv_at hl 2 rfl) ?_
  refine z_ci (va_runS (As := [.int (nI hd), .int (nI x), .int (nI y)]) (rest := [.ref mo]) ⟨hx, hb, hml, hown, hts⟩ (c_X6_isUp l D hd x y (by omega) (by omega) (by omega)) (va_cwS 3 hts gX6_play_X6_isUp rfl rfl rfl (by decide +kernel) ⟨Nat.le_of_ble_eq_true rfl, Nat.le_of_ble_eq_true rfl⟩) ⟨z_fb0, fun U hU hW => ⟨rfl, trivial⟩⟩ rfl rfl hl.1 rfl (lv_room (Nat.le_of_ble_eq_true rfl)) dX6_play_42 ⟨z_room (c := (wco 512 (trn hd x y u v) wf)) rfl (by omega), z_room (c := (40 * wco 512 (trn hd x y u v) wf)) rfl (by omega)⟩) (fun r42 e42 => ?_)
  subst e42
  refine z_beq (tgt := 59) hx hb dX6_play_45 (by decide) (fun c_45 => absurd (htb.symm.trans c_45) (by decide)) (fun c_45 => ?_)
  refine lv_iload_n hx hb dX6_play_48 rfl (lv_at hl 3 rfl) ?_
  refine lv_iload_n hx hb dX6_play_49 rfl (lv_at hl 1 rfl) ?_
  refine z_cge (tgt := 59) hx hb (by omega) (by omega) dX6_play_50 (by decide) (fun c_50 => absurd c_50 (by omega)) (fun c_50 => ?_)
  refine lv_iload hx hb dX6_play_53 (lv_at hl 4 rfl) ?_
  refine lv_iload_n hx hb dX6_play_55 rfl (lv_at hl 2 rfl) ?_
  refine z_clt (tgt := 63) hx hb (by omega) (by omega) dX6_play_56 (by decide) (fun c_56 => ?_) (fun c_56 => absurd c_56 (by omega))
  refine lv_iconst (v := nI 0) hx hb dX6_play_63 zki_0 ?_
  refine lv_iconst (v := nI 2) hx hb dX6_play_64 zki_2 ?_
  have hPc := hP.sub (ws' := [(mo, .inr (8, [.int (nI 0), .ref ra, .ref ca, .ref ha, .int (nI kp), .ref ba, .int (nI hd), .ref wa]))]) [1] rfl
  have hDc := hD.sub (ws' := [(mo, .inr (8, [.int (nI 0), .ref ra, .ref ca, .ref ha, .int (nI kp), .ref ba, .int (nI hd), .ref wa]))]) [1] (by decide) rfl
  have hKc := hK.sub (tys' := []) [] rfl
  have hFc := va_free (wc := [(mo, .inr (8, [.int (nI 0), .ref ra, .ref ca, .ref ha, .int (nI kp), .ref ba, .int (nI hd), .ref wa]))]) hD hS hA [1] rfl
  refine va_calli (va_runV (As := [.int (nI 0), .int (nI 2)]) (rest := []) ⟨hx, hb, hml, hown, hts⟩ (c_X6_fails_false l D H.size mo ra ca ha ba wa kp hd 2 (by omega) (by omega)) (cwV 2 hts gX6_play_X6_fails rfl rfl rfl (by decide +kernel) ⟨Nat.le_of_ble_eq_true rfl, Nat.le_of_ble_eq_true rfl⟩) ⟨(z_fb2), va_recv hK hP (ci := 8) (q0 := 1) rfl rfl, fun U hU hW => ⟨rfl, by rw [hU], by rw [hU]; exact hPc, va_K.moved hW.alike hKc, hDc.weaken (fun _ _ _ _ => trivial)⟩⟩ rfl rfl hl.1 rfl (lv_room (Nat.le_of_ble_eq_true rfl)) dX6_play_65 ⟨z_room (c := (wco 512 (trn hd x y u v) wf)) rfl (by omega), z_room (c := (40 * wco 512 (trn hd x y u v) wf)) rfl (by omega)⟩) hS (fun q _ h => hFc q h) hFc (fun r65 u65 t H locs ht hvm e65 hB hz1 hk1 hS => ?_)
  obtain ⟨hP1, hK1, hD1⟩ := hB
  rw [ht] at hP1
  obtain ⟨hP, hD⟩ := va_join (wr := [(wa, .inl (kw, 512, .inl (aN wf)))]) (w1 := [(mo, .inr (8, [.int (nI 0), .ref ra, .ref ca, .ref ha, .int (nI kp), .ref ba, .int (nI hd), .ref wa]))]) hP hD [1] [0] rfl rfl (by decide) (by decide) hk1 hFc hP1 hD1
  have hP : va_P D vwCl [(wa, .inl (kw, 512, .inl (aN wf))), (mo, .inr (8, [.int (nI 0), .ref ra, .ref ca, .ref ha, .int (nI kp), .ref ba, .int (nI hd), .ref wa]))] H := hP
  have hD : va_D A [(wa, .inl (kw, 512, .inl (aN wf))), (mo, .inr (8, [.int (nI 0), .ref ra, .ref ca, .ref ha, .int (nI kp), .ref ba, .int (nI hd), .ref wa]))] := hD
  refine W.widen (k := 0) (n := 0) (Nat.le_of_ble_eq_true rfl) (Nat.le_of_ble_eq_true rfl) ?_
  subst e65
  refine z_beq (tgt := 73) hx hb dX6_play_68 (by decide) (fun c_68 => ?_) (fun c_68 => absurd c_68 (by decide))
  refine lv_aload_n hx hb dX6_play_73 rfl (lv_at hl 0 rfl) ?_
  refine lv_aload_n hx hb dX6_play_74 rfl (lv_at hl 0 rfl) ?_
  refine va_get (D := D) (ci := 8) (v := .int (nI hd)) (C := RX6) (T := TX6) (N := 8) hx hb hts nX6_play_inX6 hown hK hP 1 rfl rfl 6 (by decide) (hts (.fieldLink RX6 111 "GamefieldModel" "board" "I") (by decide +kernel)) (fun _ h9 => h9) rfl dX6_play_75 ?_
  refine lv_iload_n hx hb dX6_play_78 rfl (lv_at hl 1 rfl) ?_
  refine lv_iload_n hx hb dX6_play_79 rfl (lv_at hl 2 rfl) ?_
  refine lv_iload_n hx hb dX6_play_80 rfl (lv_at hl 3 rfl) ?_
  refine lv_iload hx hb dX6_play_81 (lv_at hl 4 rfl) ?_
  refine z_ci (va_runS (As := [.int (nI hd), .int (nI x), .int (nI y), .int (nI u), .int (nI v)]) (rest := [.ref mo]) ⟨hx, hb, hml, hown, hts⟩ (c_X6_turned l D hd x y u v (by omega) (by omega) (by omega) (by omega) (by omega)) (va_cwS 5 hts gX6_play_X6_turned rfl rfl rfl (by decide +kernel) ⟨Nat.le_of_ble_eq_true rfl, Nat.le_of_ble_eq_true rfl⟩) ⟨z_fb0, fun U hU hW => ⟨rfl, trivial⟩⟩ rfl rfl hl.1 rfl (lv_room (Nat.le_of_ble_eq_true rfl)) dX6_play_83 ⟨z_room (c := (wco 512 (trn hd x y u v) wf)) rfl (by omega), z_room (c := (40 * wco 512 (trn hd x y u v) wf)) rfl (by omega)⟩) (fun r83 e83 => ?_)
  subst e83
  have htn83 : trn hd x y u v < 65536 := trn_lt (by omega) (by omega) (by omega) (by omega) (by omega)
  refine va_put (D := D) (ci := 8) (v := .int (nI (trn hd x y u v))) (ty := .int) (C := RX6) (T := TX6) (N := 8) hx hb hts nX6_play_inX6 tyX6 tyX6_ok nmX6 hown hK hP hD hS 1 rfl rfl 6 (by decide) (hts (.fieldLink RX6 111 "GamefieldModel" "board" "I") (by decide +kernel)) (fun _ h9 => h9) rfl (by decide +kernel) rfl rfl (Nat.le_of_ble_eq_true rfl) dX6_play_86 (fun H locs hP hD hS => ?_)
  have hP : va_P D vwCl [(wa, .inl (kw, 512, .inl (aN wf))), (mo, .inr (8, [.int (nI 0), .ref ra, .ref ca, .ref ha, .int (nI kp), .ref ba, .int (nI (trn hd x y u v)), .ref wa]))] H := hP
  have hD : va_D A [(wa, .inl (kw, 512, .inl (aN wf))), (mo, .inr (8, [.int (nI 0), .ref ra, .ref ca, .ref ha, .int (nI kp), .ref ba, .int (nI (trn hd x y u v)), .ref wa]))] := hD
  refine lv_aload_n hx hb dX6_play_89 rfl (lv_at hl 0 rfl) ?_
  refine lv_aload_n hx hb dX6_play_90 rfl (lv_at hl 0 rfl) ?_
  refine va_get (D := D) (ci := 8) (v := .int (nI (trn hd x y u v))) (C := RX6) (T := TX6) (N := 8) hx hb hts nX6_play_inX6 hown hK hP 1 rfl rfl 6 (by decide) (hts (.fieldLink RX6 111 "GamefieldModel" "board" "I") (by decide +kernel)) (fun _ h9 => h9) rfl dX6_play_91 ?_
  have hPc := hP.sub (ws' := [(mo, .inr (8, [.int (nI 0), .ref ra, .ref ca, .ref ha, .int (nI kp), .ref ba, .int (nI (trn hd x y u v)), .ref wa])), (wa, .inl (kw, 512, .inl (aN wf)))]) [1, 0] rfl
  have hDc := hD.sub (ws' := [(mo, .inr (8, [.int (nI 0), .ref ra, .ref ca, .ref ha, .int (nI kp), .ref ba, .int (nI (trn hd x y u v)), .ref wa])), (wa, .inl (kw, 512, .inl (aN wf)))]) [1, 0] (by decide) rfl
  have hKc := hK.sub (tys' := [(kw, .int)]) [0] rfl
  have hFc := va_free (wc := [(mo, .inr (8, [.int (nI 0), .ref ra, .ref ca, .ref ha, .int (nI kp), .ref ba, .int (nI (trn hd x y u v)), .ref wa])), (wa, .inl (kw, 512, .inl (aN wf)))]) hD hS hA [1, 0] rfl
  refine va_calli (va_runV (As := [.int (nI (trn hd x y u v))]) (rest := []) ⟨hx, hb, hml, hown, hts⟩ (c_X6_worthOf_ok l D H.size mo ra ca ha ba wa kp (trn hd x y u v) 0 kw wf (trn hd x y u v) (htn83) (by omega)) (cwV 1 hts gX6_play_X6_worthOf rfl rfl rfl (by decide +kernel) ⟨Nat.le_of_ble_eq_true rfl, Nat.le_of_ble_eq_true rfl⟩) ⟨(z_fb2), va_recv hK hP (ci := 8) (q0 := 1) rfl rfl, fun U hU hW => ⟨rfl, by rw [hU], by rw [hU]; exact hPc, va_K.moved hW.alike hKc, hDc.weaken (fun _ _ _ _ => trivial)⟩⟩ rfl rfl hl.1 rfl (lv_room (Nat.le_of_ble_eq_true rfl)) dX6_play_94 ⟨z_room (c := (wco 512 (trn hd x y u v) wf)) rfl (by omega), z_room (c := (40 * wco 512 (trn hd x y u v) wf)) rfl (by omega)⟩) hS (fun q _ h => hFc q h) hFc (fun r94 u94 t H locs ht hvm e94 hB hz1 hk1 hS => ?_)
  obtain ⟨hP1, hK1, hD1⟩ := hB
  rw [ht] at hP1
  obtain ⟨hP, hD⟩ := va_join (wr := []) (w1 := [(mo, .inr (8, [.int (nI 0), .ref ra, .ref ca, .ref ha, .int (nI kp), .ref ba, .int (nI (trn hd x y u v)), .ref wa])), (wa, .inl (kw, 512, .inl (aN (wmo 512 (trn hd x y u v) wf))))]) hP hD [1, 0] [] rfl rfl (by decide) (by decide) hk1 hFc hP1 hD1
  have hP : va_P D vwCl [(mo, .inr (8, [.int (nI 0), .ref ra, .ref ca, .ref ha, .int (nI kp), .ref ba, .int (nI (trn hd x y u v)), .ref wa])), (wa, .inl (kw, 512, .inl (aN (wmo 512 (trn hd x y u v) wf))))] H := hP
  have hD : va_D A [(mo, .inr (8, [.int (nI 0), .ref ra, .ref ca, .ref ha, .int (nI kp), .ref ba, .int (nI (trn hd x y u v)), .ref wa])), (wa, .inl (kw, 512, .inl (aN (wmo 512 (trn hd x y u v) wf))))] := hD
  refine W.widen (k := (wco 512 (trn hd x y u v) wf)) (n := (40 * wco 512 (trn hd x y u v) wf)) (by omega) (by omega) ?_
  subst e94
  have hg94 : gw ((trn hd x y u v)) < 4 := gw_lt _
  have hP9 := hP.sub (ws' := [(mo, .inr (8, [.int (nI 0), .ref ra, .ref ca, .ref ha, .int (nI kp), .ref ba, .int (nI (trn hd x y u v)), .ref wa])), (wa, .inl (kw, 512, .inl (aN (wmo 512 (trn hd x y u v) wf))))]) [0, 1] rfl
  have hD9 := hD.sub (ws' := [(mo, .inr (8, [.int (nI 0), .ref ra, .ref ca, .ref ha, .int (nI kp), .ref ba, .int (nI (trn hd x y u v)), .ref wa])), (wa, .inl (kw, 512, .inl (aN (wmo 512 (trn hd x y u v) wf))))]) [0, 1] (by decide) rfl
  have hK9 := hK.sub (tys' := [(kw, .int)]) [0] rfl
  subst hAe
  refine W.widen (k := (wco 512 (trn hd x y u v) wf)) (n := (40 * wco 512 (trn hd x y u v) wf)) (by omega) (by omega) ?_
  exact W.iret hx hb hr (fun t ht hW => ⟨⟨_, (), rfl, (rfl), by rw [ht]; exact hP9, va_K.moved hW.alike hK9, hD9⟩, hS.F ht⟩) hS.2.2 dX6_play_97
abbrev rm_c_X6_best_ok (hd : Nat) (wf : Nat → Nat) (tt : Nat) : Room := { frames := 519, cells := (cbi hd wf (tt + 1)), slots := (40 * cbi hd wf (tt + 1)), locals := 14011 }
abbrev q_c_X6_best_ok (D : va_G) (sz : Nat) (mo : Nat) (ra : Nat) (ca : Nat) (ha : Nat) (ba : Nat) (wa : Nat) (kp : Nat) (hd : Nat) (th : Nat) (kw : ClassId) (wf : Nat → Nat) (tt : Nat) : Array Value → State → Outcome → State → Prop := va_Qi (fun r (_ : Unit) => r = (nI tt)) (fun (_ : Unit) t => va_P D vwCl [(mo, .inr (8, [.int (nI 0), .ref ra, .ref ca, .ref ha, .int (nI kp), .ref ba, .int (nI hd), .ref wa])), (wa, .inl (kw, 512, .inl (aN (wbi hd wf (tt + 1)))))] t.heap ∧ va_K D vwCl [(kw, .int)] t ∧ va_D (va_A [(mo, .inr (8, [.int (nI th), .ref ra, .ref ca, .ref ha, .int (nI kp), .ref ba, .int (nI hd), .ref wa])), (wa, .inl (kw, 512, .inl (aN wf)))] sz) [(mo, .inr (8, [.int (nI 0), .ref ra, .ref ca, .ref ha, .int (nI kp), .ref ba, .int (nI hd), .ref wa])), (wa, .inl (kw, 512, .inl (aN (wbi hd wf (tt + 1)))))]) (va_A [(mo, .inr (8, [.int (nI th), .ref ra, .ref ca, .ref ha, .int (nI kp), .ref ba, .int (nI hd), .ref wa])), (wa, .inl (kw, 512, .inl (aN wf)))] sz)
set_option maxHeartbeats 4000000 in
set_option maxRecDepth 100000 in
theorem c_X6_best_ok (l : Launch) (D : va_G) (sz : Nat) (mo : Nat) (ra : Nat) (ca : Nat) (ha : Nat) (ba : Nat) (wa : Nat) (kp : Nat) (hd : Nat) (th : Nat) (kw : ClassId) (wf : Nat → Nat) (tt : Nat) (hhd : hd < 65536) (hwi : winv wf) (hbp : bpk hd 256 = some tt) : Met l yX6_best wsX6_best (rm_c_X6_best_ok hd wf tt) (va_Pc [.ref mo] (fun U => U.heap.size = sz ∧ va_P D vwCl [(mo, .inr (8, [.int (nI th), .ref ra, .ref ca, .ref ha, .int (nI kp), .ref ba, .int (nI hd), .ref wa])), (wa, .inl (kw, 512, .inl (aN wf)))] U.heap ∧ va_K D vwCl [(kw, .int)] U ∧ va_D (fun _ => True) [(mo, .inr (8, [.int (nI th), .ref ra, .ref ca, .ref ha, .int (nI kp), .ref ba, .int (nI hd), .ref wa])), (wa, .inl (kw, 512, .inl (aN wf)))])) (q_c_X6_best_ok D sz mo ra ca ha ba wa kp hd th kw wf tt) (cbi hd wf (tt + 1)) (40 * cbi hd wf (tt + 1)) (va_A [(mo, .inr (8, [.int (nI th), .ref ra, .ref ca, .ref ha, .int (nI kp), .ref ba, .int (nI hd), .ref wa])), (wa, .inl (kw, 512, .inl (aN wf)))] sz) := by
  refine Met.ofW (cc := cX6_best) (maxL := 7) (ret := (some .int)) (by decide) rfl ?_
  intro p e s m args below meth c s₁ B hml hv
  obtain ⟨hargs, hsz, hP, hK, hD0⟩ := hv
  have hx := B.exec
  have hb := B.bytes
  have hr := B.returns
  have hts := atoms_spec (ws := wsX6_best) B.pre
  have hown : s.vm.findClass RX6 = some m.cls := findClass_of_methodNamed B.named
  have hlocks := B.notSynchronized
  subst hsz
  have hD := hD0.self (sz := s.heap.size)
  generalize hAe : va_A [(mo, .inr (8, [.int (nI th), .ref ra, .ref ca, .ref ha, .int (nI kp), .ref ba, .int (nI hd), .ref wa])), (wa, .inl (kw, 512, .inl (aN wf)))] s.heap.size = A at hD ⊢
  have hA : ∀ q : Nat, s.heap.size ≤ q → A q := fun q h => by rw [← hAe]; exact Or.inr h
  have hS : va_S A s.heap s.heap [] := va_S.rf
  have hl := lv_entry ([.ref mo]) (n := 7) (Nat.le_of_ble_eq_true rfl)
  refine W.eq (g2 := F0 m 0 (lg_sl ([.ref mo]) ++ List.replicate (7 - (lg_sl ([.ref mo])).length) Slot.unset).toArray []) (by rw [hargs]; exact lg_entry_eq _ _ _) ?_
  generalize (lg_sl ([.ref mo]) ++ List.replicate (7 - (lg_sl ([.ref mo])).length) Slot.unset).toArray = ls at hl ⊢
  have hl : lv_has ls 7 [(0, .ref mo)] := hl
  refine lv_aload_n hx hb dX6_best_0 rfl (lv_at hl 0 rfl) ?_
  refine lv_iconst (v := nI 0) hx hb dX6_best_1 zki_0 ?_
  refine va_put (D := D) (ci := 8) (v := .int (nI 0)) (ty := .int) (C := RX6) (T := TX6) (N := 8) hx hb hts nX6_best_inX6 tyX6 tyX6_ok nmX6 hown hK hP hD hS 0 rfl rfl 0 (by decide) (hts (.fieldLink RX6 26 "GamefieldModel" "thrown" "I") (by decide +kernel)) (fun _ h9 => h9) rfl (by decide +kernel) rfl rfl (Nat.le_of_ble_eq_true rfl) dX6_best_2 (fun H locs hP hD hS => ?_)
  have hP : va_P D vwCl [(mo, .inr (8, [.int (nI 0), .ref ra, .ref ca, .ref ha, .int (nI kp), .ref ba, .int (nI hd), .ref wa])), (wa, .inl (kw, 512, .inl (aN wf)))] H := hP
  have hD : va_D A [(mo, .inr (8, [.int (nI 0), .ref ra, .ref ca, .ref ha, .int (nI kp), .ref ba, .int (nI hd), .ref wa])), (wa, .inl (kw, 512, .inl (aN wf)))] := hD
  have hbk := bpk_is 256 hbp
  refine lv_iconst (v := nI 0) hx hb dX6_best_5 zki_0 ?_
  refine lv_istore_n (lv' := [(1, .int (nI 0)), (0, .ref mo)]) hx hb dX6_best_6 rfl hl (by decide) rfl (fun ls hl => ?_)
  have cut_7 : ∀ (nn9 : Nat) (i : Nat) (hi : i ≤ tt) (hn9 : 256 - i < nn9) (H : Heap) (locs : List Loc) (hP : va_P D vwCl [(mo, .inr (8, [.int (nI 0), .ref ra, .ref ca, .ref ha, .int (nI kp), .ref ba, .int (nI hd), .ref wa])), (wa, .inl (kw, 512, .inl (aN (wbi hd wf i))))] H) (hD : va_D A [(mo, .inr (8, [.int (nI 0), .ref ra, .ref ca, .ref ha, .int (nI kp), .ref ba, .int (nI hd), .ref wa])), (wa, .inl (kw, 512, .inl (aN (wbi hd wf i))))]) (hS : va_S A s.heap H locs) (ls : Array Slot) (hl : lv_has ls 7 [(0, .ref mo), (1, .int (nI i))]), W p l e (headSpec wsX6_best (rm_c_X6_best_ok hd wf tt)).room s m args below meth c H locs (cbi hd wf i) (40 * cbi hd wf i) (MQ below (q_c_X6_best_ok D s.heap.size mo ra ca ha ba wa kp hd th kw wf tt) args s (cbi hd wf (tt + 1)) (40 * cbi hd wf (tt + 1)) A) (F0 m 7 ls []) := by
    intro nn9
    induction nn9 with
    | zero => intro i hi hn9; exact absurd hn9 (Nat.not_lt_zero _)
    | succ nn9 ih_7 =>
      intro i hi hn9 H locs hP hD hS ls hl
      refine lv_iload_n hx hb dX6_best_7 rfl (lv_at hl 1 rfl) ?_
      refine lv_sipush (v := nI 256) hx hb dX6_best_8 zks_256 ?_
      refine z_cge (tgt := 102) hx hb (by omega) (by omega) dX6_best_11 (by decide) (fun c_11 => absurd c_11 (by have := hbk.1; omega)) (fun c_11 => ?_)
      have hwi9 := wbi_inv (w := wf) hhd hwi i (by omega)
      have hmn := cbi_mono hd wf (show i + 1 ≤ (tt + 1) by omega)
      have hmn0 := cbi_mono hd wf (show i ≤ (tt + 1) by omega)
      refine lv_iload_n hx hb dX6_best_14 rfl (lv_at hl 1 rfl) ?_
      refine lv_bipush (v := nI 64) hx hb dX6_best_15 zkb_64 ?_
      refine z_div hx hb (by omega) (by omega) (by omega) dX6_best_17 ?_
      refine lv_istore_n (lv' := [(2, .int (nI (i / 64))), (0, .ref mo), (1, .int (nI i))]) hx hb dX6_best_18 rfl hl (by decide) rfl (fun ls hl => ?_)
      refine lv_iload_n hx hb dX6_best_19 rfl (lv_at hl 2 rfl) ?_
      refine lv_bipush (v := nI 16) hx hb dX6_best_20 zkb_16 ?_
      refine z_div hx hb (by omega) (by omega) (by omega) dX6_best_22 ?_
      refine lv_iconst (v := nI 4) hx hb dX6_best_23 zki_4 ?_
      refine z_rem hx hb (by omega) (by omega) (by omega) dX6_best_24 ?_
      refine lv_istore_n (lv' := [(3, .int (nI ((i / 16) % 4))), (2, .int (nI (i / 64))), (0, .ref mo), (1, .int (nI i))]) hx hb dX6_best_25 rfl hl (by decide) rfl (fun ls hl => ?_)
      refine lv_iload_n hx hb dX6_best_26 rfl (lv_at hl 3 rfl) ?_
      refine lv_iconst (v := nI 4) hx hb dX6_best_27 zki_4 ?_
      refine z_div hx hb (by omega) (by omega) (by omega) dX6_best_28 ?_
      refine lv_iconst (v := nI 4) hx hb dX6_best_29 zki_4 ?_
      refine z_rem hx hb (by omega) (by omega) (by omega) dX6_best_30 ?_
      refine lv_istore (lv' := [(4, .int (nI ((i / 4) % 4))), (3, .int (nI ((i / 16) % 4))), (2, .int (nI (i / 64))), (0, .ref mo), (1, .int (nI i))]) hx hb dX6_best_31 hl (by decide) rfl (fun ls hl => ?_)
      refine lv_iload_n hx hb dX6_best_33 rfl (lv_at hl 4 rfl) ?_
      refine lv_iconst (v := nI 4) hx hb dX6_best_34 zki_4 ?_
      refine z_rem hx hb (by omega) (by omega) (by omega) dX6_best_35 ?_
      refine lv_istore (lv' := [(5, .int (nI (i % 4))), (4, .int (nI ((i / 4) % 4))), (3, .int (nI ((i / 16) % 4))), (2, .int (nI (i / 64))), (0, .ref mo), (1, .int (nI i))]) hx hb dX6_best_36 hl (by decide) rfl (fun ls hl => ?_)
      refine lv_aload_n hx hb dX6_best_38 rfl (lv_at hl 4 rfl) ?_
      refine va_get (D := D) (ci := 8) (v := .int (nI hd)) (C := RX6) (T := TX6) (N := 8) hx hb hts nX6_best_inX6 hown hK hP 0 rfl rfl 6 (by decide) (hts (.fieldLink RX6 111 "GamefieldModel" "board" "I") (by decide +kernel)) (fun _ h9 => h9) rfl dX6_best_39 ?_
      refine lv_iload_n hx hb dX6_best_42 rfl (lv_at hl 3 rfl) ?_
      refine lv_iload_n hx hb dX6_best_43 rfl (lv_at hl 2 rfl) ?_
      refine z_ci (va_runS (As := [.int (nI hd), .int (nI (i / 64)), .int (nI ((i / 16) % 4))]) (rest := []) ⟨hx, hb, hml, hown, hts⟩ (c_X6_isUp l D hd (i / 64) ((i / 16) % 4) (by omega) (by omega) (by omega)) (va_cwS 3 hts gX6_best_X6_isUp rfl rfl rfl (by decide +kernel) ⟨Nat.le_of_ble_eq_true rfl, Nat.le_of_ble_eq_true rfl⟩) ⟨z_fb0, fun U hU hW => ⟨rfl, trivial⟩⟩ rfl rfl hl.1 rfl (lv_room (Nat.le_of_ble_eq_true rfl)) dX6_best_44 ⟨z_room (c := (cbi hd wf (tt + 1))) rfl (by omega), z_room (c := (40 * cbi hd wf (tt + 1))) rfl (by omega)⟩) (fun r44 e44 => ?_)
      subst e44
      refine z_beq (tgt := 66) hx hb dX6_best_47 (by decide) (fun c_47 => ?_) (fun c_47 => ?_)
      · have hip : isp hd i = false := isp_1 c_47
        refine lv_iconst (v := nI 0) hx hb dX6_best_66 zki_0 ?_
        refine lv_istore (lv' := [(6, .int (nI 0)), (5, .int (nI (i % 4))), (4, .int (nI ((i / 4) % 4))), (3, .int (nI ((i / 16) % 4))), (2, .int (nI (i / 64))), (0, .ref mo), (1, .int (nI i))]) hx hb dX6_best_67 hl (by decide) rfl (fun ls hl => ?_)
        refine lv_iload hx hb dX6_best_69 (lv_at hl 0 rfl) ?_
        refine z_feq (tgt := 96) hx hb (by omega) dX6_best_71 (by decide) (fun c_71 => ?_) (fun c_71 => absurd c_71 (by decide))
        refine lv_iinc (v := (nI (i + 1))) (lv' := [(1, .int (nI (i + 1))), (6, .int (nI 0)), (5, .int (nI (i % 4))), (4, .int (nI ((i / 4) % 4))), (3, .int (nI ((i / 16) % 4))), (2, .int (nI (i / 64))), (0, .ref mo)]) hx hb dX6_best_96 hl (k := 6) rfl (z_inc i 1) (by decide) rfl (fun ls hl => ?_)
        refine lv_goto (tgt := 7) hx hb dX6_best_99 (by decide) ?_
        have hit9 : i ≠ tt := fun z => by
          first
          | (rw [z, hbk.2.1] at hip; exact absurd hip (by decide))
          | (rw [z] at g91; exact g91 hbk.2.2.1)
        have hP : va_P D vwCl [(mo, .inr (8, [.int (nI 0), .ref ra, .ref ca, .ref ha, .int (nI kp), .ref ba, .int (nI hd), .ref wa])), (wa, .inl (kw, 512, .inl (aN (wbi hd wf (i + 1)))))] H := Eq.mp (congrArg (fun z9 => va_P D vwCl [(mo, .inr (8, [.int (nI 0), .ref ra, .ref ca, .ref ha, .int (nI kp), .ref ba, .int (nI hd), .ref wa])), (wa, .inl (kw, 512, .inl (aN z9)))] H) ((show wbi hd wf i = wbi hd wf (i + 1) from by first | exact hws.symm | rw [wbi, if_neg (by rw [hip]; decide)]))) hP
        have hD : va_D A [(mo, .inr (8, [.int (nI 0), .ref ra, .ref ca, .ref ha, .int (nI kp), .ref ba, .int (nI hd), .ref wa])), (wa, .inl (kw, 512, .inl (aN (wbi hd wf (i + 1)))))] := Eq.mp (congrArg (fun z9 => va_D A [(mo, .inr (8, [.int (nI 0), .ref ra, .ref ca, .ref ha, .int (nI kp), .ref ba, .int (nI hd), .ref wa])), (wa, .inl (kw, 512, .inl (aN z9)))]) ((show wbi hd wf i = wbi hd wf (i + 1) from by first | exact hws.symm | rw [wbi, if_neg (by rw [hip]; decide)]))) hD
        refine W.widen (k := cbi hd wf (i + 1)) (n := (40 * cbi hd wf (i + 1))) (by first | omega | (rw [cbi, if_neg (by rw [hip]; decide)]; omega)) (by first | omega | (rw [cbi, if_neg (by rw [hip]; decide)]; omega)) ?_
        exact ih_7 (i + 1) (Nat.lt_of_le_of_ne hi (fun z => hit9 z)) (by omega) H locs hP hD hS ls (lv_sub hl [6, 0] rfl)
      · refine lv_iload hx hb dX6_best_50 (lv_at hl 1 rfl) ?_
        refine lv_iload_n hx hb dX6_best_52 rfl (lv_at hl 3 rfl) ?_
        refine z_cge (tgt := 66) hx hb (by omega) (by omega) dX6_best_53 (by decide) (fun c_53 => ?_) (fun c_53 => ?_)
        · have hip : isp hd i = false := isp_2 c_53
          refine lv_iconst (v := nI 0) hx hb dX6_best_66 zki_0 ?_
          refine lv_istore (lv' := [(6, .int (nI 0)), (5, .int (nI (i % 4))), (4, .int (nI ((i / 4) % 4))), (3, .int (nI ((i / 16) % 4))), (2, .int (nI (i / 64))), (0, .ref mo), (1, .int (nI i))]) hx hb dX6_best_67 hl (by decide) rfl (fun ls hl => ?_)
          refine lv_iload hx hb dX6_best_69 (lv_at hl 0 rfl) ?_
          refine z_feq (tgt := 96) hx hb (by omega) dX6_best_71 (by decide) (fun c_71 => ?_) (fun c_71 => absurd c_71 (by decide))
          refine lv_iinc (v := (nI (i + 1))) (lv' := [(1, .int (nI (i + 1))), (6, .int (nI 0)), (5, .int (nI (i % 4))), (4, .int (nI ((i / 4) % 4))), (3, .int (nI ((i / 16) % 4))), (2, .int (nI (i / 64))), (0, .ref mo)]) hx hb dX6_best_96 hl (k := 6) rfl (z_inc i 1) (by decide) rfl (fun ls hl => ?_)
          refine lv_goto (tgt := 7) hx hb dX6_best_99 (by decide) ?_
          have hit9 : i ≠ tt := fun z => by
            first
            | (rw [z, hbk.2.1] at hip; exact absurd hip (by decide))
            | (rw [z] at g91; exact g91 hbk.2.2.1)
          have hP : va_P D vwCl [(mo, .inr (8, [.int (nI 0), .ref ra, .ref ca, .ref ha, .int (nI kp), .ref ba, .int (nI hd), .ref wa])), (wa, .inl (kw, 512, .inl (aN (wbi hd wf (i + 1)))))] H := Eq.mp (congrArg (fun z9 => va_P D vwCl [(mo, .inr (8, [.int (nI 0), .ref ra, .ref ca, .ref ha, .int (nI kp), .ref ba, .int (nI hd), .ref wa])), (wa, .inl (kw, 512, .inl (aN z9)))] H) ((show wbi hd wf i = wbi hd wf (i + 1) from by first | exact hws.symm | rw [wbi, if_neg (by rw [hip]; decide)]))) hP
          have hD : va_D A [(mo, .inr (8, [.int (nI 0), .ref ra, .ref ca, .ref ha, .int (nI kp), .ref ba, .int (nI hd), .ref wa])), (wa, .inl (kw, 512, .inl (aN (wbi hd wf (i + 1)))))] := Eq.mp (congrArg (fun z9 => va_D A [(mo, .inr (8, [.int (nI 0), .ref ra, .ref ca, .ref ha, .int (nI kp), .ref ba, .int (nI hd), .ref wa])), (wa, .inl (kw, 512, .inl (aN z9)))]) ((show wbi hd wf i = wbi hd wf (i + 1) from by first | exact hws.symm | rw [wbi, if_neg (by rw [hip]; decide)]))) hD
          refine W.widen (k := cbi hd wf (i + 1)) (n := (40 * cbi hd wf (i + 1))) (by first | omega | (rw [cbi, if_neg (by rw [hip]; decide)]; omega)) (by first | omega | (rw [cbi, if_neg (by rw [hip]; decide)]; omega)) ?_
          exact ih_7 (i + 1) (Nat.lt_of_le_of_ne hi (fun z => hit9 z)) (by omega) H locs hP hD hS ls (lv_sub hl [6, 0] rfl)
        · refine lv_iload hx hb dX6_best_56 (lv_at hl 0 rfl) ?_
          refine lv_iload_n hx hb dX6_best_58 rfl (lv_at hl 2 rfl) ?_
          refine z_cge (tgt := 66) hx hb (by omega) (by omega) dX6_best_59 (by decide) (fun c_59 => ?_) (fun c_59 => ?_)
          · have hip : isp hd i = false := isp_3 c_59
            refine lv_iconst (v := nI 0) hx hb dX6_best_66 zki_0 ?_
            refine lv_istore (lv' := [(6, .int (nI 0)), (5, .int (nI (i % 4))), (4, .int (nI ((i / 4) % 4))), (3, .int (nI ((i / 16) % 4))), (2, .int (nI (i / 64))), (0, .ref mo), (1, .int (nI i))]) hx hb dX6_best_67 hl (by decide) rfl (fun ls hl => ?_)
            refine lv_iload hx hb dX6_best_69 (lv_at hl 0 rfl) ?_
            refine z_feq (tgt := 96) hx hb (by omega) dX6_best_71 (by decide) (fun c_71 => ?_) (fun c_71 => absurd c_71 (by decide))
            refine lv_iinc (v := (nI (i + 1))) (lv' := [(1, .int (nI (i + 1))), (6, .int (nI 0)), (5, .int (nI (i % 4))), (4, .int (nI ((i / 4) % 4))), (3, .int (nI ((i / 16) % 4))), (2, .int (nI (i / 64))), (0, .ref mo)]) hx hb dX6_best_96 hl (k := 6) rfl (z_inc i 1) (by decide) rfl (fun ls hl => ?_)
            refine lv_goto (tgt := 7) hx hb dX6_best_99 (by decide) ?_
            have hit9 : i ≠ tt := fun z => by
              first
              | (rw [z, hbk.2.1] at hip; exact absurd hip (by decide))
              | (rw [z] at g91; exact g91 hbk.2.2.1)
            have hP : va_P D vwCl [(mo, .inr (8, [.int (nI 0), .ref ra, .ref ca, .ref ha, .int (nI kp), .ref ba, .int (nI hd), .ref wa])), (wa, .inl (kw, 512, .inl (aN (wbi hd wf (i + 1)))))] H := Eq.mp (congrArg (fun z9 => va_P D vwCl [(mo, .inr (8, [.int (nI 0), .ref ra, .ref ca, .ref ha, .int (nI kp), .ref ba, .int (nI hd), .ref wa])), (wa, .inl (kw, 512, .inl (aN z9)))] H) ((show wbi hd wf i = wbi hd wf (i + 1) from by first | exact hws.symm | rw [wbi, if_neg (by rw [hip]; decide)]))) hP
            have hD : va_D A [(mo, .inr (8, [.int (nI 0), .ref ra, .ref ca, .ref ha, .int (nI kp), .ref ba, .int (nI hd), .ref wa])), (wa, .inl (kw, 512, .inl (aN (wbi hd wf (i + 1)))))] := Eq.mp (congrArg (fun z9 => va_D A [(mo, .inr (8, [.int (nI 0), .ref ra, .ref ca, .ref ha, .int (nI kp), .ref ba, .int (nI hd), .ref wa])), (wa, .inl (kw, 512, .inl (aN z9)))]) ((show wbi hd wf i = wbi hd wf (i + 1) from by first | exact hws.symm | rw [wbi, if_neg (by rw [hip]; decide)]))) hD
            refine W.widen (k := cbi hd wf (i + 1)) (n := (40 * cbi hd wf (i + 1))) (by first | omega | (rw [cbi, if_neg (by rw [hip]; decide)]; omega)) (by first | omega | (rw [cbi, if_neg (by rw [hip]; decide)]; omega)) ?_
            exact ih_7 (i + 1) (Nat.lt_of_le_of_ne hi (fun z => hit9 z)) (by omega) H locs hP hD hS ls (lv_sub hl [6, 0] rfl)
          · refine lv_iconst (v := nI 1) hx hb dX6_best_62 zki_1 ?_
            refine lv_goto (tgt := 67) hx hb dX6_best_63 (by decide) ?_
            refine lv_istore (lv' := [(6, .int (nI 1)), (5, .int (nI (i % 4))), (4, .int (nI ((i / 4) % 4))), (3, .int (nI ((i / 16) % 4))), (2, .int (nI (i / 64))), (0, .ref mo), (1, .int (nI i))]) hx hb dX6_best_67 hl (by decide) rfl (fun ls hl => ?_)
            refine lv_iload hx hb dX6_best_69 (lv_at hl 0 rfl) ?_
            refine z_feq (tgt := 96) hx hb (by omega) dX6_best_71 (by decide) (fun c_71 => absurd c_71 (by decide)) (fun c_71 => ?_)
            have hip : isp hd i = true := isp_of c_47 c_53 c_59
            have hcs : cbi hd wf (i + 1) = cbi hd wf i + wco 512 (trn hd (i / 64) ((i / 16) % 4) ((i / 4) % 4) (i % 4)) (wbi hd wf i) := by rw [cbi, if_pos hip]; rfl
            have hws : wbi hd wf (i + 1) = wmo 512 (trn hd (i / 64) ((i / 16) % 4) ((i / 4) % 4) (i % 4)) (wbi hd wf i) := by rw [wbi, if_pos hip]; rfl
            have hal := aft_lt (c := i) hhd (by omega)
            refine lv_aload_n hx hb dX6_best_74 rfl (lv_at hl 5 rfl) ?_
            refine lv_aload_n hx hb dX6_best_75 rfl (lv_at hl 5 rfl) ?_
            refine va_get (D := D) (ci := 8) (v := .int (nI hd)) (C := RX6) (T := TX6) (N := 8) hx hb hts nX6_best_inX6 hown hK hP 0 rfl rfl 6 (by decide) (hts (.fieldLink RX6 111 "GamefieldModel" "board" "I") (by decide +kernel)) (fun _ h9 => h9) rfl dX6_best_76 ?_
            refine lv_iload_n hx hb dX6_best_79 rfl (lv_at hl 4 rfl) ?_
            refine lv_iload_n hx hb dX6_best_80 rfl (lv_at hl 3 rfl) ?_
            refine lv_iload hx hb dX6_best_81 (lv_at hl 2 rfl) ?_
            refine lv_iload hx hb dX6_best_83 (lv_at hl 1 rfl) ?_
            refine z_ci (va_runS (As := [.int (nI hd), .int (nI (i / 64)), .int (nI ((i / 16) % 4)), .int (nI ((i / 4) % 4)), .int (nI (i % 4))]) (rest := [.ref mo]) ⟨hx, hb, hml, hown, hts⟩ (c_X6_turned l D hd (i / 64) ((i / 16) % 4) ((i / 4) % 4) (i % 4) (by omega) (by omega) (by omega) (by omega) (hhd)) (va_cwS 5 hts gX6_best_X6_turned rfl rfl rfl (by decide +kernel) ⟨Nat.le_of_ble_eq_true rfl, Nat.le_of_ble_eq_true rfl⟩) ⟨z_fb0, fun U hU hW => ⟨rfl, trivial⟩⟩ rfl rfl hl.1 rfl (lv_room (Nat.le_of_ble_eq_true rfl)) dX6_best_85 ⟨z_room (c := (cbi hd wf (tt + 1))) rfl (by omega), z_room (c := (40 * cbi hd wf (tt + 1))) rfl (by omega)⟩) (fun r85 e85 => ?_)
            subst e85
            have htn85 : trn hd (i / 64) ((i / 16) % 4) ((i / 4) % 4) (i % 4) < 65536 := trn_lt (by omega) (by omega) (by omega) (by omega) (by omega)
            have hPc := hP.sub (ws' := [(mo, .inr (8, [.int (nI 0), .ref ra, .ref ca, .ref ha, .int (nI kp), .ref ba, .int (nI hd), .ref wa])), (wa, .inl (kw, 512, .inl (aN (wbi hd wf i))))]) [0, 1] rfl
            have hDc := hD.sub (ws' := [(mo, .inr (8, [.int (nI 0), .ref ra, .ref ca, .ref ha, .int (nI kp), .ref ba, .int (nI hd), .ref wa])), (wa, .inl (kw, 512, .inl (aN (wbi hd wf i))))]) [0, 1] (by decide) rfl
            have hKc := hK.sub (tys' := [(kw, .int)]) [0] rfl
            have hFc := va_free (wc := [(mo, .inr (8, [.int (nI 0), .ref ra, .ref ca, .ref ha, .int (nI kp), .ref ba, .int (nI hd), .ref wa])), (wa, .inl (kw, 512, .inl (aN (wbi hd wf i))))]) hD hS hA [0, 1] rfl
            refine va_calli (va_runV (As := [.int (nI (trn hd (i / 64) ((i / 16) % 4) ((i / 4) % 4) (i % 4)))]) (rest := []) ⟨hx, hb, hml, hown, hts⟩ (c_X6_worthOf_ok l D H.size mo ra ca ha ba wa kp hd 0 kw (wbi hd wf i) (trn hd (i / 64) ((i / 16) % 4) ((i / 4) % 4) (i % 4)) (hal) (hwi9)) (cwV 1 hts gX6_best_X6_worthOf rfl rfl rfl (by decide +kernel) ⟨Nat.le_of_ble_eq_true rfl, Nat.le_of_ble_eq_true rfl⟩) ⟨(z_fb2), va_recv hK hP (ci := 8) (q0 := 0) rfl rfl, fun U hU hW => ⟨rfl, by rw [hU], by rw [hU]; exact hPc, va_K.moved hW.alike hKc, hDc.weaken (fun _ _ _ _ => trivial)⟩⟩ rfl rfl hl.1 rfl (lv_room (Nat.le_of_ble_eq_true rfl)) dX6_best_88 ⟨z_room (c := (cbi hd wf (tt + 1))) rfl (by omega), z_room (c := (40 * cbi hd wf (tt + 1))) rfl (by omega)⟩) hS (fun q _ h => hFc q h) hFc (fun r88 u88 t H locs ht hvm e88 hB hz1 hk1 hS => ?_)
            obtain ⟨hP1, hK1, hD1⟩ := hB
            rw [ht] at hP1
            obtain ⟨hP, hD⟩ := va_join (wr := []) (w1 := [(mo, .inr (8, [.int (nI 0), .ref ra, .ref ca, .ref ha, .int (nI kp), .ref ba, .int (nI hd), .ref wa])), (wa, .inl (kw, 512, .inl (aN (wmo 512 (trn hd (i / 64) ((i / 16) % 4) ((i / 4) % 4) (i % 4)) (wbi hd wf i)))))]) hP hD [0, 1] [] rfl rfl (by decide) (by decide) hk1 hFc hP1 hD1
            have hP : va_P D vwCl [(mo, .inr (8, [.int (nI 0), .ref ra, .ref ca, .ref ha, .int (nI kp), .ref ba, .int (nI hd), .ref wa])), (wa, .inl (kw, 512, .inl (aN (wmo 512 (trn hd (i / 64) ((i / 16) % 4) ((i / 4) % 4) (i % 4)) (wbi hd wf i)))))] H := hP
            have hD : va_D A [(mo, .inr (8, [.int (nI 0), .ref ra, .ref ca, .ref ha, .int (nI kp), .ref ba, .int (nI hd), .ref wa])), (wa, .inl (kw, 512, .inl (aN (wmo 512 (trn hd (i / 64) ((i / 16) % 4) ((i / 4) % 4) (i % 4)) (wbi hd wf i)))))] := hD
            refine W.widen (k := cbi hd wf i + (wco 512 (trn hd (i / 64) ((i / 16) % 4) ((i / 4) % 4) (i % 4)) (wbi hd wf i))) (n := (40 * cbi hd wf i) + (40 * wco 512 (trn hd (i / 64) ((i / 16) % 4) ((i / 4) % 4) (i % 4)) (wbi hd wf i))) (by omega) (by omega) ?_
            subst e88
            have hg88 : gw ((trn hd (i / 64) ((i / 16) % 4) ((i / 4) % 4) (i % 4))) < 4 := gw_lt _
            refine z_fne (tgt := 96) hx hb (by omega) dX6_best_91 (by decide) (fun c_91 => ?_) (fun c_91 => ?_)
            · have g91 : gw (aft hd i) ≠ 0 := by show gw (trn hd (i / 64) ((i / 16) % 4) ((i / 4) % 4) (i % 4)) ≠ 0; omega
              refine lv_iinc (v := (nI (i + 1))) (lv' := [(1, .int (nI (i + 1))), (6, .int (nI 1)), (5, .int (nI (i % 4))), (4, .int (nI ((i / 4) % 4))), (3, .int (nI ((i / 16) % 4))), (2, .int (nI (i / 64))), (0, .ref mo)]) hx hb dX6_best_96 hl (k := 6) rfl (z_inc i 1) (by decide) rfl (fun ls hl => ?_)
              refine lv_goto (tgt := 7) hx hb dX6_best_99 (by decide) ?_
              have hit9 : i ≠ tt := fun z => by
                first
                | (rw [z, hbk.2.1] at hip; exact absurd hip (by decide))
                | (rw [z] at g91; exact g91 hbk.2.2.1)
              have hP : va_P D vwCl [(mo, .inr (8, [.int (nI 0), .ref ra, .ref ca, .ref ha, .int (nI kp), .ref ba, .int (nI hd), .ref wa])), (wa, .inl (kw, 512, .inl (aN (wbi hd wf (i + 1)))))] H := Eq.mp (congrArg (fun z9 => va_P D vwCl [(mo, .inr (8, [.int (nI 0), .ref ra, .ref ca, .ref ha, .int (nI kp), .ref ba, .int (nI hd), .ref wa])), (wa, .inl (kw, 512, .inl (aN z9)))] H) ((show wmo 512 (trn hd (i / 64) ((i / 16) % 4) ((i / 4) % 4) (i % 4)) (wbi hd wf i) = wbi hd wf (i + 1) from by first | exact hws.symm | rw [wbi, if_neg (by rw [hip]; decide)]))) hP
              have hD : va_D A [(mo, .inr (8, [.int (nI 0), .ref ra, .ref ca, .ref ha, .int (nI kp), .ref ba, .int (nI hd), .ref wa])), (wa, .inl (kw, 512, .inl (aN (wbi hd wf (i + 1)))))] := Eq.mp (congrArg (fun z9 => va_D A [(mo, .inr (8, [.int (nI 0), .ref ra, .ref ca, .ref ha, .int (nI kp), .ref ba, .int (nI hd), .ref wa])), (wa, .inl (kw, 512, .inl (aN z9)))]) ((show wmo 512 (trn hd (i / 64) ((i / 16) % 4) ((i / 4) % 4) (i % 4)) (wbi hd wf i) = wbi hd wf (i + 1) from by first | exact hws.symm | rw [wbi, if_neg (by rw [hip]; decide)]))) hD
              refine W.widen (k := cbi hd wf (i + 1)) (n := (40 * cbi hd wf (i + 1))) (by first | omega | (rw [cbi, if_neg (by rw [hip]; decide)]; omega)) (by first | omega | (rw [cbi, if_neg (by rw [hip]; decide)]; omega)) ?_
              exact ih_7 (i + 1) (Nat.lt_of_le_of_ne hi (fun z => hit9 z)) (by omega) H locs hP hD hS ls (lv_sub hl [6, 0] rfl)
            · have g91 : gw (aft hd i) = 0 := by show gw (trn hd (i / 64) ((i / 16) % 4) ((i / 4) % 4) (i % 4)) = 0; omega
              have hit : tt = i := by
                rcases Nat.lt_or_ge i tt with q | q
                · exact absurd g91 (hbk.2.2.2 i q hip)
                · omega
              refine lv_iload_n hx hb dX6_best_94 rfl (lv_at hl 6 rfl) ?_
              have hP9 := hP.sub (ws' := [(mo, .inr (8, [.int (nI 0), .ref ra, .ref ca, .ref ha, .int (nI kp), .ref ba, .int (nI hd), .ref wa])), (wa, .inl (kw, 512, .inl (aN (wmo 512 (trn hd (i / 64) ((i / 16) % 4) ((i / 4) % 4) (i % 4)) (wbi hd wf i)))))]) [0, 1] rfl
              have hD9 := hD.sub (ws' := [(mo, .inr (8, [.int (nI 0), .ref ra, .ref ca, .ref ha, .int (nI kp), .ref ba, .int (nI hd), .ref wa])), (wa, .inl (kw, 512, .inl (aN (wmo 512 (trn hd (i / 64) ((i / 16) % 4) ((i / 4) % 4) (i % 4)) (wbi hd wf i)))))]) [0, 1] (by decide) rfl
              subst hit
              rw [← hws] at hP9 hD9
              have hK9 := hK.sub (tys' := [(kw, .int)]) [0] rfl
              subst hAe
              refine W.widen (k := (cbi hd wf (tt + 1))) (n := (40 * cbi hd wf (tt + 1))) (by omega) (by omega) ?_
              exact W.iret hx hb hr (fun t ht hW => ⟨⟨_, (), rfl, (rfl), by rw [ht]; exact hP9, va_K.moved hW.alike hK9, hD9⟩, hS.F ht⟩) hS.2.2 dX6_best_95
  have hP : va_P D vwCl [(mo, .inr (8, [.int (nI 0), .ref ra, .ref ca, .ref ha, .int (nI kp), .ref ba, .int (nI hd), .ref wa])), (wa, .inl (kw, 512, .inl (aN (wbi hd wf 0))))] H := Eq.mp (congrArg (fun z9 => va_P D vwCl [(mo, .inr (8, [.int (nI 0), .ref ra, .ref ca, .ref ha, .int (nI kp), .ref ba, .int (nI hd), .ref wa])), (wa, .inl (kw, 512, .inl (aN z9)))] H) ((show wf = wbi hd wf 0 from rfl))) hP
  have hD : va_D A [(mo, .inr (8, [.int (nI 0), .ref ra, .ref ca, .ref ha, .int (nI kp), .ref ba, .int (nI hd), .ref wa])), (wa, .inl (kw, 512, .inl (aN (wbi hd wf 0))))] := Eq.mp (congrArg (fun z9 => va_D A [(mo, .inr (8, [.int (nI 0), .ref ra, .ref ca, .ref ha, .int (nI kp), .ref ba, .int (nI hd), .ref wa])), (wa, .inl (kw, 512, .inl (aN z9)))]) ((show wf = wbi hd wf 0 from rfl))) hD
  refine W.widen (k := cbi hd wf 0) (n := (40 * cbi hd wf 0)) (Nat.le_refl _) (Nat.le_refl _) ?_
  exact cut_7 ((256 - 0) + 1) 0 (by omega) (Nat.lt_succ_self _) H locs hP hD hS ls (lv_sub hl [1, 0] rfl)
abbrev rm_c_X6_answer_ok (hd : Nat) (wf : Nat → Nat) (tt : Nat) : Room := { frames := 520, cells := (cbi hd wf (tt + 1)), slots := (40 * cbi hd wf (tt + 1)), locals := 14037 }
abbrev q_c_X6_answer_ok (D : va_G) (sz : Nat) (mo : Nat) (ra : Nat) (ca : Nat) (ha : Nat) (ba : Nat) (wa : Nat) (kp : Nat) (hd : Nat) (th : Nat) (kw : ClassId) (wf : Nat → Nat) (tt : Nat) : Array Value → State → Outcome → State → Prop := va_Qi (fun r (_ : Unit) => r = (nI tt)) (fun (_ : Unit) t => va_P D vwCl [(mo, .inr (8, [.int (nI 0), .ref ra, .ref ca, .ref ha, .int (nI kp), .ref ba, .int (nI (aft hd tt)), .ref wa])), (wa, .inl (kw, 512, .inl (aN (wbi hd wf (tt + 1)))))] t.heap ∧ va_K D vwCl [(kw, .int)] t ∧ va_D (va_A [(mo, .inr (8, [.int (nI th), .ref ra, .ref ca, .ref ha, .int (nI kp), .ref ba, .int (nI hd), .ref wa])), (wa, .inl (kw, 512, .inl (aN wf)))] sz) [(mo, .inr (8, [.int (nI 0), .ref ra, .ref ca, .ref ha, .int (nI kp), .ref ba, .int (nI (aft hd tt)), .ref wa])), (wa, .inl (kw, 512, .inl (aN (wbi hd wf (tt + 1)))))]) (va_A [(mo, .inr (8, [.int (nI th), .ref ra, .ref ca, .ref ha, .int (nI kp), .ref ba, .int (nI hd), .ref wa])), (wa, .inl (kw, 512, .inl (aN wf)))] sz)
set_option maxHeartbeats 4000000 in
set_option maxRecDepth 100000 in
theorem c_X6_answer_ok (l : Launch) (D : va_G) (sz : Nat) (mo : Nat) (ra : Nat) (ca : Nat) (ha : Nat) (ba : Nat) (wa : Nat) (kp : Nat) (hd : Nat) (th : Nat) (kw : ClassId) (wf : Nat → Nat) (tt : Nat) (hhd : hd < 65536) (hwi : winv wf) (hbp : bpk hd 256 = some tt) : Met l yX6_answer wsX6_answer (rm_c_X6_answer_ok hd wf tt) (va_Pc [.ref mo] (fun U => U.heap.size = sz ∧ va_P D vwCl [(mo, .inr (8, [.int (nI th), .ref ra, .ref ca, .ref ha, .int (nI kp), .ref ba, .int (nI hd), .ref wa])), (wa, .inl (kw, 512, .inl (aN wf)))] U.heap ∧ va_K D vwCl [(kw, .int)] U ∧ va_D (fun _ => True) [(mo, .inr (8, [.int (nI th), .ref ra, .ref ca, .ref ha, .int (nI kp), .ref ba, .int (nI hd), .ref wa])), (wa, .inl (kw, 512, .inl (aN wf)))])) (q_c_X6_answer_ok D sz mo ra ca ha ba wa kp hd th kw wf tt) (cbi hd wf (tt + 1)) (40 * cbi hd wf (tt + 1)) (va_A [(mo, .inr (8, [.int (nI th), .ref ra, .ref ca, .ref ha, .int (nI kp), .ref ba, .int (nI hd), .ref wa])), (wa, .inl (kw, 512, .inl (aN wf)))] sz) := by
  refine Met.ofW (cc := cX6_answer) (maxL := 2) (ret := (some .int)) (by decide) rfl ?_
  intro p e s m args below meth c s₁ B hml hv
  obtain ⟨hargs, hsz, hP, hK, hD0⟩ := hv
  have hx := B.exec
  have hb := B.bytes
  have hr := B.returns
  have hts := atoms_spec (ws := wsX6_answer) B.pre
  have hown : s.vm.findClass RX6 = some m.cls := findClass_of_methodNamed B.named
  have hlocks := B.notSynchronized
  subst hsz
  have hD := hD0.self (sz := s.heap.size)
  generalize hAe : va_A [(mo, .inr (8, [.int (nI th), .ref ra, .ref ca, .ref ha, .int (nI kp), .ref ba, .int (nI hd), .ref wa])), (wa, .inl (kw, 512, .inl (aN wf)))] s.heap.size = A at hD ⊢
  have hA : ∀ q : Nat, s.heap.size ≤ q → A q := fun q h => by rw [← hAe]; exact Or.inr h
  have hS : va_S A s.heap s.heap [] := va_S.rf
  have hl := lv_entry ([.ref mo]) (n := 2) (Nat.le_of_ble_eq_true rfl)
  refine W.eq (g2 := F0 m 0 (lg_sl ([.ref mo]) ++ List.replicate (2 - (lg_sl ([.ref mo])).length) Slot.unset).toArray []) (by rw [hargs]; exact lg_entry_eq _ _ _) ?_
  generalize (lg_sl ([.ref mo]) ++ List.replicate (2 - (lg_sl ([.ref mo])).length) Slot.unset).toArray = ls at hl ⊢
  have hl : lv_has ls 2 [(0, .ref mo)] := hl
  refine lv_aload_n hx hb dX6_answer_0 rfl (lv_at hl 0 rfl) ?_
  have hPc := hP.sub (ws' := [(mo, .inr (8, [.int (nI th), .ref ra, .ref ca, .ref ha, .int (nI kp), .ref ba, .int (nI hd), .ref wa])), (wa, .inl (kw, 512, .inl (aN wf)))]) [0, 1] rfl
  have hDc := hD.sub (ws' := [(mo, .inr (8, [.int (nI th), .ref ra, .ref ca, .ref ha, .int (nI kp), .ref ba, .int (nI hd), .ref wa])), (wa, .inl (kw, 512, .inl (aN wf)))]) [0, 1] (by decide) rfl
  have hKc := hK.sub (tys' := [(kw, .int)]) [0] rfl
  have hFc := va_free (wc := [(mo, .inr (8, [.int (nI th), .ref ra, .ref ca, .ref ha, .int (nI kp), .ref ba, .int (nI hd), .ref wa])), (wa, .inl (kw, 512, .inl (aN wf)))]) hD hS hA [0, 1] rfl
  refine va_calli (va_runV (As := []) (rest := []) ⟨hx, hb, hml, hown, hts⟩ (c_X6_best_ok l D s.heap.size mo ra ca ha ba wa kp hd th kw wf tt (by omega) (by omega) (by omega)) (cwV 0 hts gX6_answer_X6_best rfl rfl rfl (by decide +kernel) ⟨Nat.le_of_ble_eq_true rfl, Nat.le_of_ble_eq_true rfl⟩) ⟨(z_fb2), va_recv hK hP (ci := 8) (q0 := 0) rfl rfl, fun U hU hW => ⟨rfl, by rw [hU], by rw [hU]; exact hPc, va_K.moved hW.alike hKc, hDc.weaken (fun _ _ _ _ => trivial)⟩⟩ rfl rfl hl.1 rfl (lv_room (Nat.le_of_ble_eq_true rfl)) dX6_answer_1 ⟨z_room (c := (cbi hd wf (tt + 1))) rfl (by omega), z_room (c := (40 * cbi hd wf (tt + 1))) rfl (by omega)⟩) hS (fun q _ h => hFc q h) hFc (fun r1 u1 t H locs ht hvm e1 hB hz1 hk1 hS => ?_)
  obtain ⟨hP1, hK1, hD1⟩ := hB
  rw [ht] at hP1
  obtain ⟨hP, hD⟩ := va_join (wr := []) (w1 := [(mo, .inr (8, [.int (nI 0), .ref ra, .ref ca, .ref ha, .int (nI kp), .ref ba, .int (nI hd), .ref wa])), (wa, .inl (kw, 512, .inl (aN (wbi hd wf (tt + 1)))))]) hP hD [0, 1] [] rfl rfl (by decide) (by decide) hk1 hFc hP1 hD1
  have hP : va_P D vwCl [(mo, .inr (8, [.int (nI 0), .ref ra, .ref ca, .ref ha, .int (nI kp), .ref ba, .int (nI hd), .ref wa])), (wa, .inl (kw, 512, .inl (aN (wbi hd wf (tt + 1)))))] H := hP
  have hD : va_D A [(mo, .inr (8, [.int (nI 0), .ref ra, .ref ca, .ref ha, .int (nI kp), .ref ba, .int (nI hd), .ref wa])), (wa, .inl (kw, 512, .inl (aN (wbi hd wf (tt + 1)))))] := hD
  refine W.widen (k := (cbi hd wf (tt + 1))) (n := (40 * cbi hd wf (tt + 1))) (by omega) (by omega) ?_
  subst e1
  have hbk := bpk_is 256 hbp
  have hal := aft_lt (c := tt) hhd (by omega)
  refine lv_istore_n (lv' := [(1, .int (nI tt)), (0, .ref mo)]) hx hb dX6_answer_4 rfl hl (by decide) rfl (fun ls hl => ?_)
  refine lv_iload_n hx hb dX6_answer_5 rfl (lv_at hl 0 rfl) ?_
  refine lv_iconst (v := (-1)) hx hb dX6_answer_6 zki_m1 ?_
  refine lv_icmp_eq (tgt := 39) hx hb dX6_answer_7 (by decide) (fun c_7 => absurd c_7 (nI_nm1 tt (by omega))) (fun c_7 => ?_)
  refine lv_aload_n hx hb dX6_answer_10 rfl (lv_at hl 1 rfl) ?_
  refine lv_aload_n hx hb dX6_answer_11 rfl (lv_at hl 1 rfl) ?_
  refine va_get (D := D) (ci := 8) (v := .int (nI hd)) (C := RX6) (T := TX6) (N := 8) hx hb hts nX6_answer_inX6 hown hK hP 0 rfl rfl 6 (by decide) (hts (.fieldLink RX6 111 "GamefieldModel" "board" "I") (by decide +kernel)) (fun _ h9 => h9) rfl dX6_answer_12 ?_
  refine lv_iload_n hx hb dX6_answer_15 rfl (lv_at hl 0 rfl) ?_
  refine lv_bipush (v := nI 64) hx hb dX6_answer_16 zkb_64 ?_
  refine z_div hx hb (by omega) (by omega) (by omega) dX6_answer_18 ?_
  refine lv_iload_n hx hb dX6_answer_19 rfl (lv_at hl 0 rfl) ?_
  refine lv_bipush (v := nI 16) hx hb dX6_answer_20 zkb_16 ?_
  refine z_div hx hb (by omega) (by omega) (by omega) dX6_answer_22 ?_
  refine lv_iconst (v := nI 4) hx hb dX6_answer_23 zki_4 ?_
  refine z_rem hx hb (by omega) (by omega) (by omega) dX6_answer_24 ?_
  refine lv_iload_n hx hb dX6_answer_25 rfl (lv_at hl 0 rfl) ?_
  refine lv_iconst (v := nI 4) hx hb dX6_answer_26 zki_4 ?_
  refine z_div hx hb (by omega) (by omega) (by omega) dX6_answer_27 ?_
  refine lv_iconst (v := nI 4) hx hb dX6_answer_28 zki_4 ?_
  refine z_rem hx hb (by omega) (by omega) (by omega) dX6_answer_29 ?_
  refine lv_iload_n hx hb dX6_answer_30 rfl (lv_at hl 0 rfl) ?_
  refine lv_iconst (v := nI 4) hx hb dX6_answer_31 zki_4 ?_
  refine z_rem hx hb (by omega) (by omega) (by omega) dX6_answer_32 ?_
  refine z_ci (va_runS (As := [.int (nI hd), .int (nI (tt / 64)), .int (nI ((tt / 16) % 4)), .int (nI ((tt / 4) % 4)), .int (nI (tt % 4))]) (rest := [.ref mo]) ⟨hx, hb, hml, hown, hts⟩ (c_X6_turned l D hd (tt / 64) ((tt / 16) % 4) ((tt / 4) % 4) (tt % 4) (by omega) (by omega) (by omega) (by omega) (hhd)) (va_cwS 5 hts gX6_answer_X6_turned rfl rfl rfl (by decide +kernel) ⟨Nat.le_of_ble_eq_true rfl, Nat.le_of_ble_eq_true rfl⟩) ⟨z_fb0, fun U hU hW => ⟨rfl, trivial⟩⟩ rfl rfl hl.1 rfl (lv_room (Nat.le_of_ble_eq_true rfl)) dX6_answer_33 ⟨z_room (c := (cbi hd wf (tt + 1))) rfl (by omega), z_room (c := (40 * cbi hd wf (tt + 1))) rfl (by omega)⟩) (fun r33 e33 => ?_)
  subst e33
  have htn33 : trn hd (tt / 64) ((tt / 16) % 4) ((tt / 4) % 4) (tt % 4) < 65536 := trn_lt (by omega) (by omega) (by omega) (by omega) (by omega)
  refine va_put (D := D) (ci := 8) (v := .int (nI (trn hd (tt / 64) ((tt / 16) % 4) ((tt / 4) % 4) (tt % 4)))) (ty := .int) (C := RX6) (T := TX6) (N := 8) hx hb hts nX6_answer_inX6 tyX6 tyX6_ok nmX6 hown hK hP hD hS 0 rfl rfl 6 (by decide) (hts (.fieldLink RX6 111 "GamefieldModel" "board" "I") (by decide +kernel)) (fun _ h9 => h9) rfl (by decide +kernel) rfl rfl (Nat.le_of_ble_eq_true rfl) dX6_answer_36 (fun H locs hP hD hS => ?_)
  have hP : va_P D vwCl [(mo, .inr (8, [.int (nI 0), .ref ra, .ref ca, .ref ha, .int (nI kp), .ref ba, .int (nI (trn hd (tt / 64) ((tt / 16) % 4) ((tt / 4) % 4) (tt % 4))), .ref wa])), (wa, .inl (kw, 512, .inl (aN (wbi hd wf (tt + 1)))))] H := hP
  have hD : va_D A [(mo, .inr (8, [.int (nI 0), .ref ra, .ref ca, .ref ha, .int (nI kp), .ref ba, .int (nI (trn hd (tt / 64) ((tt / 16) % 4) ((tt / 4) % 4) (tt % 4))), .ref wa])), (wa, .inl (kw, 512, .inl (aN (wbi hd wf (tt + 1)))))] := hD
  refine lv_iload_n hx hb dX6_answer_39 rfl (lv_at hl 0 rfl) ?_
  have hP9 := hP.sub (ws' := [(mo, .inr (8, [.int (nI 0), .ref ra, .ref ca, .ref ha, .int (nI kp), .ref ba, .int (nI (trn hd (tt / 64) ((tt / 16) % 4) ((tt / 4) % 4) (tt % 4))), .ref wa])), (wa, .inl (kw, 512, .inl (aN (wbi hd wf (tt + 1)))))]) [0, 1] rfl
  have hD9 := hD.sub (ws' := [(mo, .inr (8, [.int (nI 0), .ref ra, .ref ca, .ref ha, .int (nI kp), .ref ba, .int (nI (trn hd (tt / 64) ((tt / 16) % 4) ((tt / 4) % 4) (tt % 4))), .ref wa])), (wa, .inl (kw, 512, .inl (aN (wbi hd wf (tt + 1)))))]) [0, 1] (by decide) rfl
  have hK9 := hK.sub (tys' := [(kw, .int)]) [0] rfl
  subst hAe
  refine W.widen (k := (cbi hd wf (tt + 1))) (n := (40 * cbi hd wf (tt + 1))) (by omega) (by omega) ?_
  exact W.iret hx hb hr (fun t ht hW => ⟨⟨_, (), rfl, (rfl), by rw [ht]; exact hP9, va_K.moved hW.alike hK9, hD9⟩, hS.F ht⟩) hS.2.2 dX6_answer_40
abbrev rm_c_X6_best_none (hd : Nat) (wf : Nat → Nat) : Room := { frames := 519, cells := (cbi hd wf 256), slots := (40 * cbi hd wf 256), locals := 14011 }
abbrev q_c_X6_best_none (D : va_G) (sz : Nat) (mo : Nat) (ra : Nat) (ca : Nat) (ha : Nat) (ba : Nat) (wa : Nat) (kp : Nat) (hd : Nat) (th : Nat) (kw : ClassId) (wf : Nat → Nat) : Array Value → State → Outcome → State → Prop := va_Qi (fun r (_ : Unit) => r = (-1)) (fun (_ : Unit) t => va_P D vwCl [(mo, .inr (8, [.int (nI 0), .ref ra, .ref ca, .ref ha, .int (nI kp), .ref ba, .int (nI hd), .ref wa])), (wa, .inl (kw, 512, .inl (aN (wbi hd wf 256))))] t.heap ∧ va_K D vwCl [(kw, .int)] t ∧ va_D (va_A [(mo, .inr (8, [.int (nI th), .ref ra, .ref ca, .ref ha, .int (nI kp), .ref ba, .int (nI hd), .ref wa])), (wa, .inl (kw, 512, .inl (aN wf)))] sz) [(mo, .inr (8, [.int (nI 0), .ref ra, .ref ca, .ref ha, .int (nI kp), .ref ba, .int (nI hd), .ref wa])), (wa, .inl (kw, 512, .inl (aN (wbi hd wf 256))))]) (va_A [(mo, .inr (8, [.int (nI th), .ref ra, .ref ca, .ref ha, .int (nI kp), .ref ba, .int (nI hd), .ref wa])), (wa, .inl (kw, 512, .inl (aN wf)))] sz)
set_option maxHeartbeats 4000000 in
set_option maxRecDepth 100000 in
theorem c_X6_best_none (l : Launch) (D : va_G) (sz : Nat) (mo : Nat) (ra : Nat) (ca : Nat) (ha : Nat) (ba : Nat) (wa : Nat) (kp : Nat) (hd : Nat) (th : Nat) (kw : ClassId) (wf : Nat → Nat) (hhd : hd < 65536) (hwi : winv wf) (hbp : bpk hd 256 = none) : Met l yX6_best wsX6_best (rm_c_X6_best_none hd wf) (va_Pc [.ref mo] (fun U => U.heap.size = sz ∧ va_P D vwCl [(mo, .inr (8, [.int (nI th), .ref ra, .ref ca, .ref ha, .int (nI kp), .ref ba, .int (nI hd), .ref wa])), (wa, .inl (kw, 512, .inl (aN wf)))] U.heap ∧ va_K D vwCl [(kw, .int)] U ∧ va_D (fun _ => True) [(mo, .inr (8, [.int (nI th), .ref ra, .ref ca, .ref ha, .int (nI kp), .ref ba, .int (nI hd), .ref wa])), (wa, .inl (kw, 512, .inl (aN wf)))])) (q_c_X6_best_none D sz mo ra ca ha ba wa kp hd th kw wf) (cbi hd wf 256) (40 * cbi hd wf 256) (va_A [(mo, .inr (8, [.int (nI th), .ref ra, .ref ca, .ref ha, .int (nI kp), .ref ba, .int (nI hd), .ref wa])), (wa, .inl (kw, 512, .inl (aN wf)))] sz) := by
  refine Met.ofW (cc := cX6_best) (maxL := 7) (ret := (some .int)) (by decide) rfl ?_
  intro p e s m args below meth c s₁ B hml hv
  obtain ⟨hargs, hsz, hP, hK, hD0⟩ := hv
  have hx := B.exec
  have hb := B.bytes
  have hr := B.returns
  have hts := atoms_spec (ws := wsX6_best) B.pre
  have hown : s.vm.findClass RX6 = some m.cls := findClass_of_methodNamed B.named
  have hlocks := B.notSynchronized
  subst hsz
  have hD := hD0.self (sz := s.heap.size)
  generalize hAe : va_A [(mo, .inr (8, [.int (nI th), .ref ra, .ref ca, .ref ha, .int (nI kp), .ref ba, .int (nI hd), .ref wa])), (wa, .inl (kw, 512, .inl (aN wf)))] s.heap.size = A at hD ⊢
  have hA : ∀ q : Nat, s.heap.size ≤ q → A q := fun q h => by rw [← hAe]; exact Or.inr h
  have hS : va_S A s.heap s.heap [] := va_S.rf
  have hl := lv_entry ([.ref mo]) (n := 7) (Nat.le_of_ble_eq_true rfl)
  refine W.eq (g2 := F0 m 0 (lg_sl ([.ref mo]) ++ List.replicate (7 - (lg_sl ([.ref mo])).length) Slot.unset).toArray []) (by rw [hargs]; exact lg_entry_eq _ _ _) ?_
  generalize (lg_sl ([.ref mo]) ++ List.replicate (7 - (lg_sl ([.ref mo])).length) Slot.unset).toArray = ls at hl ⊢
  have hl : lv_has ls 7 [(0, .ref mo)] := hl
  refine lv_aload_n hx hb dX6_best_0 rfl (lv_at hl 0 rfl) ?_
  refine lv_iconst (v := nI 0) hx hb dX6_best_1 zki_0 ?_
  refine va_put (D := D) (ci := 8) (v := .int (nI 0)) (ty := .int) (C := RX6) (T := TX6) (N := 8) hx hb hts nX6_best_inX6 tyX6 tyX6_ok nmX6 hown hK hP hD hS 0 rfl rfl 0 (by decide) (hts (.fieldLink RX6 26 "GamefieldModel" "thrown" "I") (by decide +kernel)) (fun _ h9 => h9) rfl (by decide +kernel) rfl rfl (Nat.le_of_ble_eq_true rfl) dX6_best_2 (fun H locs hP hD hS => ?_)
  have hP : va_P D vwCl [(mo, .inr (8, [.int (nI 0), .ref ra, .ref ca, .ref ha, .int (nI kp), .ref ba, .int (nI hd), .ref wa])), (wa, .inl (kw, 512, .inl (aN wf)))] H := hP
  have hD : va_D A [(mo, .inr (8, [.int (nI 0), .ref ra, .ref ca, .ref ha, .int (nI kp), .ref ba, .int (nI hd), .ref wa])), (wa, .inl (kw, 512, .inl (aN wf)))] := hD
  have hbn := bpk_no hbp
  refine lv_iconst (v := nI 0) hx hb dX6_best_5 zki_0 ?_
  refine lv_istore_n (lv' := [(1, .int (nI 0)), (0, .ref mo)]) hx hb dX6_best_6 rfl hl (by decide) rfl (fun ls hl => ?_)
  have cut_7 : ∀ (nn9 : Nat) (i : Nat) (hi : i ≤ 256) (hn9 : 256 - i < nn9) (H : Heap) (locs : List Loc) (hP : va_P D vwCl [(mo, .inr (8, [.int (nI 0), .ref ra, .ref ca, .ref ha, .int (nI kp), .ref ba, .int (nI hd), .ref wa])), (wa, .inl (kw, 512, .inl (aN (wbi hd wf i))))] H) (hD : va_D A [(mo, .inr (8, [.int (nI 0), .ref ra, .ref ca, .ref ha, .int (nI kp), .ref ba, .int (nI hd), .ref wa])), (wa, .inl (kw, 512, .inl (aN (wbi hd wf i))))]) (hS : va_S A s.heap H locs) (ls : Array Slot) (hl : lv_has ls 7 [(0, .ref mo), (1, .int (nI i))]), W p l e (headSpec wsX6_best (rm_c_X6_best_none hd wf)).room s m args below meth c H locs (cbi hd wf i) (40 * cbi hd wf i) (MQ below (q_c_X6_best_none D s.heap.size mo ra ca ha ba wa kp hd th kw wf) args s (cbi hd wf 256) (40 * cbi hd wf 256) A) (F0 m 7 ls []) := by
    intro nn9
    induction nn9 with
    | zero => intro i hi hn9; exact absurd hn9 (Nat.not_lt_zero _)
    | succ nn9 ih_7 =>
      intro i hi hn9 H locs hP hD hS ls hl
      refine lv_iload_n hx hb dX6_best_7 rfl (lv_at hl 1 rfl) ?_
      refine lv_sipush (v := nI 256) hx hb dX6_best_8 zks_256 ?_
      refine z_cge (tgt := 102) hx hb (by omega) (by omega) dX6_best_11 (by decide) (fun c_11 => ?_) (fun c_11 => ?_)
      · refine lv_iconst (v := (-1)) hx hb dX6_best_102 zki_m1 ?_
        have hP9 := hP.sub (ws' := [(mo, .inr (8, [.int (nI 0), .ref ra, .ref ca, .ref ha, .int (nI kp), .ref ba, .int (nI hd), .ref wa])), (wa, .inl (kw, 512, .inl (aN (wbi hd wf i))))]) [0, 1] rfl
        have hD9 := hD.sub (ws' := [(mo, .inr (8, [.int (nI 0), .ref ra, .ref ca, .ref ha, .int (nI kp), .ref ba, .int (nI hd), .ref wa])), (wa, .inl (kw, 512, .inl (aN (wbi hd wf i))))]) [0, 1] (by decide) rfl
        have hi9 : i = 256 := by omega
        subst hi9
        have hK9 := hK.sub (tys' := [(kw, .int)]) [0] rfl
        subst hAe
        refine W.widen (k := (cbi hd wf 256)) (n := (40 * cbi hd wf 256)) (by omega) (by omega) ?_
        exact W.iret hx hb hr (fun t ht hW => ⟨⟨_, (), rfl, (rfl), by rw [ht]; exact hP9, va_K.moved hW.alike hK9, hD9⟩, hS.F ht⟩) hS.2.2 dX6_best_103
      · have hwi9 := wbi_inv (w := wf) hhd hwi i (by omega)
        have hmn := cbi_mono hd wf (show i + 1 ≤ 256 by omega)
        have hmn0 := cbi_mono hd wf (show i ≤ 256 by omega)
        refine lv_iload_n hx hb dX6_best_14 rfl (lv_at hl 1 rfl) ?_
        refine lv_bipush (v := nI 64) hx hb dX6_best_15 zkb_64 ?_
        refine z_div hx hb (by omega) (by omega) (by omega) dX6_best_17 ?_
        refine lv_istore_n (lv' := [(2, .int (nI (i / 64))), (0, .ref mo), (1, .int (nI i))]) hx hb dX6_best_18 rfl hl (by decide) rfl (fun ls hl => ?_)
        refine lv_iload_n hx hb dX6_best_19 rfl (lv_at hl 2 rfl) ?_
        refine lv_bipush (v := nI 16) hx hb dX6_best_20 zkb_16 ?_
        refine z_div hx hb (by omega) (by omega) (by omega) dX6_best_22 ?_
        refine lv_iconst (v := nI 4) hx hb dX6_best_23 zki_4 ?_
        refine z_rem hx hb (by omega) (by omega) (by omega) dX6_best_24 ?_
        refine lv_istore_n (lv' := [(3, .int (nI ((i / 16) % 4))), (2, .int (nI (i / 64))), (0, .ref mo), (1, .int (nI i))]) hx hb dX6_best_25 rfl hl (by decide) rfl (fun ls hl => ?_)
        refine lv_iload_n hx hb dX6_best_26 rfl (lv_at hl 3 rfl) ?_
        refine lv_iconst (v := nI 4) hx hb dX6_best_27 zki_4 ?_
        refine z_div hx hb (by omega) (by omega) (by omega) dX6_best_28 ?_
        refine lv_iconst (v := nI 4) hx hb dX6_best_29 zki_4 ?_
        refine z_rem hx hb (by omega) (by omega) (by omega) dX6_best_30 ?_
        refine lv_istore (lv' := [(4, .int (nI ((i / 4) % 4))), (3, .int (nI ((i / 16) % 4))), (2, .int (nI (i / 64))), (0, .ref mo), (1, .int (nI i))]) hx hb dX6_best_31 hl (by decide) rfl (fun ls hl => ?_)
        refine lv_iload_n hx hb dX6_best_33 rfl (lv_at hl 4 rfl) ?_
        refine lv_iconst (v := nI 4) hx hb dX6_best_34 zki_4 ?_
        refine z_rem hx hb (by omega) (by omega) (by omega) dX6_best_35 ?_
        refine lv_istore (lv' := [(5, .int (nI (i % 4))), (4, .int (nI ((i / 4) % 4))), (3, .int (nI ((i / 16) % 4))), (2, .int (nI (i / 64))), (0, .ref mo), (1, .int (nI i))]) hx hb dX6_best_36 hl (by decide) rfl (fun ls hl => ?_)
        refine lv_aload_n hx hb dX6_best_38 rfl (lv_at hl 4 rfl) ?_
        refine va_get (D := D) (ci := 8) (v := .int (nI hd)) (C := RX6) (T := TX6) (N := 8) hx hb hts nX6_best_inX6 hown hK hP 0 rfl rfl 6 (by decide) (hts (.fieldLink RX6 111 "GamefieldModel" "board" "I") (by decide +kernel)) (fun _ h9 => h9) rfl dX6_best_39 ?_
        refine lv_iload_n hx hb dX6_best_42 rfl (lv_at hl 3 rfl) ?_
        refine lv_iload_n hx hb dX6_best_43 rfl (lv_at hl 2 rfl) ?_
        refine z_ci (va_runS (As := [.int (nI hd), .int (nI (i / 64)), .int (nI ((i / 16) % 4))]) (rest := []) ⟨hx, hb, hml, hown, hts⟩ (c_X6_isUp l D hd (i / 64) ((i / 16) % 4) (by omega) (by omega) (by omega)) (va_cwS 3 hts gX6_best_X6_isUp rfl rfl rfl (by decide +kernel) ⟨Nat.le_of_ble_eq_true rfl, Nat.le_of_ble_eq_true rfl⟩) ⟨z_fb0, fun U hU hW => ⟨rfl, trivial⟩⟩ rfl rfl hl.1 rfl (lv_room (Nat.le_of_ble_eq_true rfl)) dX6_best_44 ⟨z_room (c := (cbi hd wf 256)) rfl (by omega), z_room (c := (40 * cbi hd wf 256)) rfl (by omega)⟩) (fun r44 e44 => ?_)
        subst e44
        refine z_beq (tgt := 66) hx hb dX6_best_47 (by decide) (fun c_47 => ?_) (fun c_47 => ?_)
        · have hip : isp hd i = false := isp_1 c_47
          refine lv_iconst (v := nI 0) hx hb dX6_best_66 zki_0 ?_
          refine lv_istore (lv' := [(6, .int (nI 0)), (5, .int (nI (i % 4))), (4, .int (nI ((i / 4) % 4))), (3, .int (nI ((i / 16) % 4))), (2, .int (nI (i / 64))), (0, .ref mo), (1, .int (nI i))]) hx hb dX6_best_67 hl (by decide) rfl (fun ls hl => ?_)
          refine lv_iload hx hb dX6_best_69 (lv_at hl 0 rfl) ?_
          refine z_feq (tgt := 96) hx hb (by omega) dX6_best_71 (by decide) (fun c_71 => ?_) (fun c_71 => absurd c_71 (by decide))
          refine lv_iinc (v := (nI (i + 1))) (lv' := [(1, .int (nI (i + 1))), (6, .int (nI 0)), (5, .int (nI (i % 4))), (4, .int (nI ((i / 4) % 4))), (3, .int (nI ((i / 16) % 4))), (2, .int (nI (i / 64))), (0, .ref mo)]) hx hb dX6_best_96 hl (k := 6) rfl (z_inc i 1) (by decide) rfl (fun ls hl => ?_)
          refine lv_goto (tgt := 7) hx hb dX6_best_99 (by decide) ?_
          have hip9 := hip
          have hP : va_P D vwCl [(mo, .inr (8, [.int (nI 0), .ref ra, .ref ca, .ref ha, .int (nI kp), .ref ba, .int (nI hd), .ref wa])), (wa, .inl (kw, 512, .inl (aN (wbi hd wf (i + 1)))))] H := Eq.mp (congrArg (fun z9 => va_P D vwCl [(mo, .inr (8, [.int (nI 0), .ref ra, .ref ca, .ref ha, .int (nI kp), .ref ba, .int (nI hd), .ref wa])), (wa, .inl (kw, 512, .inl (aN z9)))] H) ((show wbi hd wf i = wbi hd wf (i + 1) from by first | exact hws.symm | rw [wbi, if_neg (by rw [hip]; decide)]))) hP
          have hD : va_D A [(mo, .inr (8, [.int (nI 0), .ref ra, .ref ca, .ref ha, .int (nI kp), .ref ba, .int (nI hd), .ref wa])), (wa, .inl (kw, 512, .inl (aN (wbi hd wf (i + 1)))))] := Eq.mp (congrArg (fun z9 => va_D A [(mo, .inr (8, [.int (nI 0), .ref ra, .ref ca, .ref ha, .int (nI kp), .ref ba, .int (nI hd), .ref wa])), (wa, .inl (kw, 512, .inl (aN z9)))]) ((show wbi hd wf i = wbi hd wf (i + 1) from by first | exact hws.symm | rw [wbi, if_neg (by rw [hip]; decide)]))) hD
          refine W.widen (k := cbi hd wf (i + 1)) (n := (40 * cbi hd wf (i + 1))) (by first | omega | (rw [cbi, if_neg (by rw [hip]; decide)]; omega)) (by first | omega | (rw [cbi, if_neg (by rw [hip]; decide)]; omega)) ?_
          exact ih_7 (i + 1) (by omega) (by omega) H locs hP hD hS ls (lv_sub hl [6, 0] rfl)
        · refine lv_iload hx hb dX6_best_50 (lv_at hl 1 rfl) ?_
          refine lv_iload_n hx hb dX6_best_52 rfl (lv_at hl 3 rfl) ?_
          refine z_cge (tgt := 66) hx hb (by omega) (by omega) dX6_best_53 (by decide) (fun c_53 => ?_) (fun c_53 => ?_)
          · have hip : isp hd i = false := isp_2 c_53
            refine lv_iconst (v := nI 0) hx hb dX6_best_66 zki_0 ?_
            refine lv_istore (lv' := [(6, .int (nI 0)), (5, .int (nI (i % 4))), (4, .int (nI ((i / 4) % 4))), (3, .int (nI ((i / 16) % 4))), (2, .int (nI (i / 64))), (0, .ref mo), (1, .int (nI i))]) hx hb dX6_best_67 hl (by decide) rfl (fun ls hl => ?_)
            refine lv_iload hx hb dX6_best_69 (lv_at hl 0 rfl) ?_
            refine z_feq (tgt := 96) hx hb (by omega) dX6_best_71 (by decide) (fun c_71 => ?_) (fun c_71 => absurd c_71 (by decide))
            refine lv_iinc (v := (nI (i + 1))) (lv' := [(1, .int (nI (i + 1))), (6, .int (nI 0)), (5, .int (nI (i % 4))), (4, .int (nI ((i / 4) % 4))), (3, .int (nI ((i / 16) % 4))), (2, .int (nI (i / 64))), (0, .ref mo)]) hx hb dX6_best_96 hl (k := 6) rfl (z_inc i 1) (by decide) rfl (fun ls hl => ?_)
            refine lv_goto (tgt := 7) hx hb dX6_best_99 (by decide) ?_
            have hip9 := hip
            have hP : va_P D vwCl [(mo, .inr (8, [.int (nI 0), .ref ra, .ref ca, .ref ha, .int (nI kp), .ref ba, .int (nI hd), .ref wa])), (wa, .inl (kw, 512, .inl (aN (wbi hd wf (i + 1)))))] H := Eq.mp (congrArg (fun z9 => va_P D vwCl [(mo, .inr (8, [.int (nI 0), .ref ra, .ref ca, .ref ha, .int (nI kp), .ref ba, .int (nI hd), .ref wa])), (wa, .inl (kw, 512, .inl (aN z9)))] H) ((show wbi hd wf i = wbi hd wf (i + 1) from by first | exact hws.symm | rw [wbi, if_neg (by rw [hip]; decide)]))) hP
            have hD : va_D A [(mo, .inr (8, [.int (nI 0), .ref ra, .ref ca, .ref ha, .int (nI kp), .ref ba, .int (nI hd), .ref wa])), (wa, .inl (kw, 512, .inl (aN (wbi hd wf (i + 1)))))] := Eq.mp (congrArg (fun z9 => va_D A [(mo, .inr (8, [.int (nI 0), .ref ra, .ref ca, .ref ha, .int (nI kp), .ref ba, .int (nI hd), .ref wa])), (wa, .inl (kw, 512, .inl (aN z9)))]) ((show wbi hd wf i = wbi hd wf (i + 1) from by first | exact hws.symm | rw [wbi, if_neg (by rw [hip]; decide)]))) hD
            refine W.widen (k := cbi hd wf (i + 1)) (n := (40 * cbi hd wf (i + 1))) (by first | omega | (rw [cbi, if_neg (by rw [hip]; decide)]; omega)) (by first | omega | (rw [cbi, if_neg (by rw [hip]; decide)]; omega)) ?_
            exact ih_7 (i + 1) (by omega) (by omega) H locs hP hD hS ls (lv_sub hl [6, 0] rfl)
          · refine lv_iload hx hb dX6_best_56 (lv_at hl 0 rfl) ?_
            refine lv_iload_n hx hb dX6_best_58 rfl (lv_at hl 2 rfl) ?_
            refine z_cge (tgt := 66) hx hb (by omega) (by omega) dX6_best_59 (by decide) (fun c_59 => ?_) (fun c_59 => ?_)
            · have hip : isp hd i = false := isp_3 c_59
              refine lv_iconst (v := nI 0) hx hb dX6_best_66 zki_0 ?_
              refine lv_istore (lv' := [(6, .int (nI 0)), (5, .int (nI (i % 4))), (4, .int (nI ((i / 4) % 4))), (3, .int (nI ((i / 16) % 4))), (2, .int (nI (i / 64))), (0, .ref mo), (1, .int (nI i))]) hx hb dX6_best_67 hl (by decide) rfl (fun ls hl => ?_)
              refine lv_iload hx hb dX6_best_69 (lv_at hl 0 rfl) ?_
              refine z_feq (tgt := 96) hx hb (by omega) dX6_best_71 (by decide) (fun c_71 => ?_) (fun c_71 => absurd c_71 (by decide))
              refine lv_iinc (v := (nI (i + 1))) (lv' := [(1, .int (nI (i + 1))), (6, .int (nI 0)), (5, .int (nI (i % 4))), (4, .int (nI ((i / 4) % 4))), (3, .int (nI ((i / 16) % 4))), (2, .int (nI (i / 64))), (0, .ref mo)]) hx hb dX6_best_96 hl (k := 6) rfl (z_inc i 1) (by decide) rfl (fun ls hl => ?_)
              refine lv_goto (tgt := 7) hx hb dX6_best_99 (by decide) ?_
              have hip9 := hip
              have hP : va_P D vwCl [(mo, .inr (8, [.int (nI 0), .ref ra, .ref ca, .ref ha, .int (nI kp), .ref ba, .int (nI hd), .ref wa])), (wa, .inl (kw, 512, .inl (aN (wbi hd wf (i + 1)))))] H := Eq.mp (congrArg (fun z9 => va_P D vwCl [(mo, .inr (8, [.int (nI 0), .ref ra, .ref ca, .ref ha, .int (nI kp), .ref ba, .int (nI hd), .ref wa])), (wa, .inl (kw, 512, .inl (aN z9)))] H) ((show wbi hd wf i = wbi hd wf (i + 1) from by first | exact hws.symm | rw [wbi, if_neg (by rw [hip]; decide)]))) hP
              have hD : va_D A [(mo, .inr (8, [.int (nI 0), .ref ra, .ref ca, .ref ha, .int (nI kp), .ref ba, .int (nI hd), .ref wa])), (wa, .inl (kw, 512, .inl (aN (wbi hd wf (i + 1)))))] := Eq.mp (congrArg (fun z9 => va_D A [(mo, .inr (8, [.int (nI 0), .ref ra, .ref ca, .ref ha, .int (nI kp), .ref ba, .int (nI hd), .ref wa])), (wa, .inl (kw, 512, .inl (aN z9)))]) ((show wbi hd wf i = wbi hd wf (i + 1) from by first | exact hws.symm | rw [wbi, if_neg (by rw [hip]; decide)]))) hD
              refine W.widen (k := cbi hd wf (i + 1)) (n := (40 * cbi hd wf (i + 1))) (by first | omega | (rw [cbi, if_neg (by rw [hip]; decide)]; omega)) (by first | omega | (rw [cbi, if_neg (by rw [hip]; decide)]; omega)) ?_
              exact ih_7 (i + 1) (by omega) (by omega) H locs hP hD hS ls (lv_sub hl [6, 0] rfl)
            · refine lv_iconst (v := nI 1) hx hb dX6_best_62 zki_1 ?_
              refine lv_goto (tgt := 67) hx hb dX6_best_63 (by decide) ?_
              refine lv_istore (lv' := [(6, .int (nI 1)), (5, .int (nI (i % 4))), (4, .int (nI ((i / 4) % 4))), (3, .int (nI ((i / 16) % 4))), (2, .int (nI (i / 64))), (0, .ref mo), (1, .int (nI i))]) hx hb dX6_best_67 hl (by decide) rfl (fun ls hl => ?_)
              refine lv_iload hx hb dX6_best_69 (lv_at hl 0 rfl) ?_
              refine z_feq (tgt := 96) hx hb (by omega) dX6_best_71 (by decide) (fun c_71 => absurd c_71 (by decide)) (fun c_71 => ?_)
              have hip : isp hd i = true := isp_of c_47 c_53 c_59
              have hcs : cbi hd wf (i + 1) = cbi hd wf i + wco 512 (trn hd (i / 64) ((i / 16) % 4) ((i / 4) % 4) (i % 4)) (wbi hd wf i) := by rw [cbi, if_pos hip]; rfl
              have hws : wbi hd wf (i + 1) = wmo 512 (trn hd (i / 64) ((i / 16) % 4) ((i / 4) % 4) (i % 4)) (wbi hd wf i) := by rw [wbi, if_pos hip]; rfl
              have hal := aft_lt (c := i) hhd (by omega)
              refine lv_aload_n hx hb dX6_best_74 rfl (lv_at hl 5 rfl) ?_
              refine lv_aload_n hx hb dX6_best_75 rfl (lv_at hl 5 rfl) ?_
              refine va_get (D := D) (ci := 8) (v := .int (nI hd)) (C := RX6) (T := TX6) (N := 8) hx hb hts nX6_best_inX6 hown hK hP 0 rfl rfl 6 (by decide) (hts (.fieldLink RX6 111 "GamefieldModel" "board" "I") (by decide +kernel)) (fun _ h9 => h9) rfl dX6_best_76 ?_
              refine lv_iload_n hx hb dX6_best_79 rfl (lv_at hl 4 rfl) ?_
              refine lv_iload_n hx hb dX6_best_80 rfl (lv_at hl 3 rfl) ?_
              refine lv_iload hx hb dX6_best_81 (lv_at hl 2 rfl) ?_
              refine lv_iload hx hb dX6_best_83 (lv_at hl 1 rfl) ?_
              refine z_ci (va_runS (As := [.int (nI hd), .int (nI (i / 64)), .int (nI ((i / 16) % 4)), .int (nI ((i / 4) % 4)), .int (nI (i % 4))]) (rest := [.ref mo]) ⟨hx, hb, hml, hown, hts⟩ (c_X6_turned l D hd (i / 64) ((i / 16) % 4) ((i / 4) % 4) (i % 4) (by omega) (by omega) (by omega) (by omega) (hhd)) (va_cwS 5 hts gX6_best_X6_turned rfl rfl rfl (by decide +kernel) ⟨Nat.le_of_ble_eq_true rfl, Nat.le_of_ble_eq_true rfl⟩) ⟨z_fb0, fun U hU hW => ⟨rfl, trivial⟩⟩ rfl rfl hl.1 rfl (lv_room (Nat.le_of_ble_eq_true rfl)) dX6_best_85 ⟨z_room (c := (cbi hd wf 256)) rfl (by omega), z_room (c := (40 * cbi hd wf 256)) rfl (by omega)⟩) (fun r85 e85 => ?_)
              subst e85
              have htn85 : trn hd (i / 64) ((i / 16) % 4) ((i / 4) % 4) (i % 4) < 65536 := trn_lt (by omega) (by omega) (by omega) (by omega) (by omega)
              have hPc := hP.sub (ws' := [(mo, .inr (8, [.int (nI 0), .ref ra, .ref ca, .ref ha, .int (nI kp), .ref ba, .int (nI hd), .ref wa])), (wa, .inl (kw, 512, .inl (aN (wbi hd wf i))))]) [0, 1] rfl
              have hDc := hD.sub (ws' := [(mo, .inr (8, [.int (nI 0), .ref ra, .ref ca, .ref ha, .int (nI kp), .ref ba, .int (nI hd), .ref wa])), (wa, .inl (kw, 512, .inl (aN (wbi hd wf i))))]) [0, 1] (by decide) rfl
              have hKc := hK.sub (tys' := [(kw, .int)]) [0] rfl
              have hFc := va_free (wc := [(mo, .inr (8, [.int (nI 0), .ref ra, .ref ca, .ref ha, .int (nI kp), .ref ba, .int (nI hd), .ref wa])), (wa, .inl (kw, 512, .inl (aN (wbi hd wf i))))]) hD hS hA [0, 1] rfl
              refine va_calli (va_runV (As := [.int (nI (trn hd (i / 64) ((i / 16) % 4) ((i / 4) % 4) (i % 4)))]) (rest := []) ⟨hx, hb, hml, hown, hts⟩ (c_X6_worthOf_ok l D H.size mo ra ca ha ba wa kp hd 0 kw (wbi hd wf i) (trn hd (i / 64) ((i / 16) % 4) ((i / 4) % 4) (i % 4)) (hal) (hwi9)) (cwV 1 hts gX6_best_X6_worthOf rfl rfl rfl (by decide +kernel) ⟨Nat.le_of_ble_eq_true rfl, Nat.le_of_ble_eq_true rfl⟩) ⟨(z_fb2), va_recv hK hP (ci := 8) (q0 := 0) rfl rfl, fun U hU hW => ⟨rfl, by rw [hU], by rw [hU]; exact hPc, va_K.moved hW.alike hKc, hDc.weaken (fun _ _ _ _ => trivial)⟩⟩ rfl rfl hl.1 rfl (lv_room (Nat.le_of_ble_eq_true rfl)) dX6_best_88 ⟨z_room (c := (cbi hd wf 256)) rfl (by omega), z_room (c := (40 * cbi hd wf 256)) rfl (by omega)⟩) hS (fun q _ h => hFc q h) hFc (fun r88 u88 t H locs ht hvm e88 hB hz1 hk1 hS => ?_)
              obtain ⟨hP1, hK1, hD1⟩ := hB
              rw [ht] at hP1
              obtain ⟨hP, hD⟩ := va_join (wr := []) (w1 := [(mo, .inr (8, [.int (nI 0), .ref ra, .ref ca, .ref ha, .int (nI kp), .ref ba, .int (nI hd), .ref wa])), (wa, .inl (kw, 512, .inl (aN (wmo 512 (trn hd (i / 64) ((i / 16) % 4) ((i / 4) % 4) (i % 4)) (wbi hd wf i)))))]) hP hD [0, 1] [] rfl rfl (by decide) (by decide) hk1 hFc hP1 hD1
              have hP : va_P D vwCl [(mo, .inr (8, [.int (nI 0), .ref ra, .ref ca, .ref ha, .int (nI kp), .ref ba, .int (nI hd), .ref wa])), (wa, .inl (kw, 512, .inl (aN (wmo 512 (trn hd (i / 64) ((i / 16) % 4) ((i / 4) % 4) (i % 4)) (wbi hd wf i)))))] H := hP
              have hD : va_D A [(mo, .inr (8, [.int (nI 0), .ref ra, .ref ca, .ref ha, .int (nI kp), .ref ba, .int (nI hd), .ref wa])), (wa, .inl (kw, 512, .inl (aN (wmo 512 (trn hd (i / 64) ((i / 16) % 4) ((i / 4) % 4) (i % 4)) (wbi hd wf i)))))] := hD
              refine W.widen (k := cbi hd wf i + (wco 512 (trn hd (i / 64) ((i / 16) % 4) ((i / 4) % 4) (i % 4)) (wbi hd wf i))) (n := (40 * cbi hd wf i) + (40 * wco 512 (trn hd (i / 64) ((i / 16) % 4) ((i / 4) % 4) (i % 4)) (wbi hd wf i))) (by omega) (by omega) ?_
              subst e88
              have hg88 : gw ((trn hd (i / 64) ((i / 16) % 4) ((i / 4) % 4) (i % 4))) < 4 := gw_lt _
              refine z_fne (tgt := 96) hx hb (by omega) dX6_best_91 (by decide) (fun c_91 => ?_) (fun c_91 => absurd (show gw (aft hd i) = 0 from (by show gw (trn hd (i / 64) ((i / 16) % 4) ((i / 4) % 4) (i % 4)) = 0; omega)) (hbn i (by omega) hip))
              have g91 : gw (aft hd i) ≠ 0 := by show gw (trn hd (i / 64) ((i / 16) % 4) ((i / 4) % 4) (i % 4)) ≠ 0; omega
              refine lv_iinc (v := (nI (i + 1))) (lv' := [(1, .int (nI (i + 1))), (6, .int (nI 1)), (5, .int (nI (i % 4))), (4, .int (nI ((i / 4) % 4))), (3, .int (nI ((i / 16) % 4))), (2, .int (nI (i / 64))), (0, .ref mo)]) hx hb dX6_best_96 hl (k := 6) rfl (z_inc i 1) (by decide) rfl (fun ls hl => ?_)
              refine lv_goto (tgt := 7) hx hb dX6_best_99 (by decide) ?_
              have hip9 := hip
              have hP : va_P D vwCl [(mo, .inr (8, [.int (nI 0), .ref ra, .ref ca, .ref ha, .int (nI kp), .ref ba, .int (nI hd), .ref wa])), (wa, .inl (kw, 512, .inl (aN (wbi hd wf (i + 1)))))] H := Eq.mp (congrArg (fun z9 => va_P D vwCl [(mo, .inr (8, [.int (nI 0), .ref ra, .ref ca, .ref ha, .int (nI kp), .ref ba, .int (nI hd), .ref wa])), (wa, .inl (kw, 512, .inl (aN z9)))] H) ((show wmo 512 (trn hd (i / 64) ((i / 16) % 4) ((i / 4) % 4) (i % 4)) (wbi hd wf i) = wbi hd wf (i + 1) from by first | exact hws.symm | rw [wbi, if_neg (by rw [hip]; decide)]))) hP
              have hD : va_D A [(mo, .inr (8, [.int (nI 0), .ref ra, .ref ca, .ref ha, .int (nI kp), .ref ba, .int (nI hd), .ref wa])), (wa, .inl (kw, 512, .inl (aN (wbi hd wf (i + 1)))))] := Eq.mp (congrArg (fun z9 => va_D A [(mo, .inr (8, [.int (nI 0), .ref ra, .ref ca, .ref ha, .int (nI kp), .ref ba, .int (nI hd), .ref wa])), (wa, .inl (kw, 512, .inl (aN z9)))]) ((show wmo 512 (trn hd (i / 64) ((i / 16) % 4) ((i / 4) % 4) (i % 4)) (wbi hd wf i) = wbi hd wf (i + 1) from by first | exact hws.symm | rw [wbi, if_neg (by rw [hip]; decide)]))) hD
              refine W.widen (k := cbi hd wf (i + 1)) (n := (40 * cbi hd wf (i + 1))) (by first | omega | (rw [cbi, if_neg (by rw [hip]; decide)]; omega)) (by first | omega | (rw [cbi, if_neg (by rw [hip]; decide)]; omega)) ?_
              exact ih_7 (i + 1) (by omega) (by omega) H locs hP hD hS ls (lv_sub hl [6, 0] rfl)
  have hP : va_P D vwCl [(mo, .inr (8, [.int (nI 0), .ref ra, .ref ca, .ref ha, .int (nI kp), .ref ba, .int (nI hd), .ref wa])), (wa, .inl (kw, 512, .inl (aN (wbi hd wf 0))))] H := Eq.mp (congrArg (fun z9 => va_P D vwCl [(mo, .inr (8, [.int (nI 0), .ref ra, .ref ca, .ref ha, .int (nI kp), .ref ba, .int (nI hd), .ref wa])), (wa, .inl (kw, 512, .inl (aN z9)))] H) ((show wf = wbi hd wf 0 from rfl))) hP
  have hD : va_D A [(mo, .inr (8, [.int (nI 0), .ref ra, .ref ca, .ref ha, .int (nI kp), .ref ba, .int (nI hd), .ref wa])), (wa, .inl (kw, 512, .inl (aN (wbi hd wf 0))))] := Eq.mp (congrArg (fun z9 => va_D A [(mo, .inr (8, [.int (nI 0), .ref ra, .ref ca, .ref ha, .int (nI kp), .ref ba, .int (nI hd), .ref wa])), (wa, .inl (kw, 512, .inl (aN z9)))]) ((show wf = wbi hd wf 0 from rfl))) hD
  refine W.widen (k := cbi hd wf 0) (n := (40 * cbi hd wf 0)) (Nat.le_refl _) (Nat.le_refl _) ?_
  exact cut_7 ((256 - 0) + 1) 0 (by omega) (Nat.lt_succ_self _) H locs hP hD hS ls (lv_sub hl [1, 0] rfl)
abbrev rm_c_X6_answer_none (hd : Nat) (wf : Nat → Nat) : Room := { frames := 520, cells := (cbi hd wf 256), slots := (40 * cbi hd wf 256), locals := 14037 }
abbrev q_c_X6_answer_none (D : va_G) (sz : Nat) (mo : Nat) (ra : Nat) (ca : Nat) (ha : Nat) (ba : Nat) (wa : Nat) (kp : Nat) (hd : Nat) (th : Nat) (kw : ClassId) (wf : Nat → Nat) : Array Value → State → Outcome → State → Prop := va_Qi (fun r (_ : Unit) => r = (-1)) (fun (_ : Unit) t => va_P D vwCl [(mo, .inr (8, [.int (nI 0), .ref ra, .ref ca, .ref ha, .int (nI kp), .ref ba, .int (nI hd), .ref wa])), (wa, .inl (kw, 512, .inl (aN (wbi hd wf 256))))] t.heap ∧ va_K D vwCl [(kw, .int)] t ∧ va_D (va_A [(mo, .inr (8, [.int (nI th), .ref ra, .ref ca, .ref ha, .int (nI kp), .ref ba, .int (nI hd), .ref wa])), (wa, .inl (kw, 512, .inl (aN wf)))] sz) [(mo, .inr (8, [.int (nI 0), .ref ra, .ref ca, .ref ha, .int (nI kp), .ref ba, .int (nI hd), .ref wa])), (wa, .inl (kw, 512, .inl (aN (wbi hd wf 256))))]) (va_A [(mo, .inr (8, [.int (nI th), .ref ra, .ref ca, .ref ha, .int (nI kp), .ref ba, .int (nI hd), .ref wa])), (wa, .inl (kw, 512, .inl (aN wf)))] sz)
set_option maxHeartbeats 4000000 in
set_option maxRecDepth 100000 in
theorem c_X6_answer_none (l : Launch) (D : va_G) (sz : Nat) (mo : Nat) (ra : Nat) (ca : Nat) (ha : Nat) (ba : Nat) (wa : Nat) (kp : Nat) (hd : Nat) (th : Nat) (kw : ClassId) (wf : Nat → Nat) (hhd : hd < 65536) (hwi : winv wf) (hbp : bpk hd 256 = none) : Met l yX6_answer wsX6_answer (rm_c_X6_answer_none hd wf) (va_Pc [.ref mo] (fun U => U.heap.size = sz ∧ va_P D vwCl [(mo, .inr (8, [.int (nI th), .ref ra, .ref ca, .ref ha, .int (nI kp), .ref ba, .int (nI hd), .ref wa])), (wa, .inl (kw, 512, .inl (aN wf)))] U.heap ∧ va_K D vwCl [(kw, .int)] U ∧ va_D (fun _ => True) [(mo, .inr (8, [.int (nI th), .ref ra, .ref ca, .ref ha, .int (nI kp), .ref ba, .int (nI hd), .ref wa])), (wa, .inl (kw, 512, .inl (aN wf)))])) (q_c_X6_answer_none D sz mo ra ca ha ba wa kp hd th kw wf) (cbi hd wf 256) (40 * cbi hd wf 256) (va_A [(mo, .inr (8, [.int (nI th), .ref ra, .ref ca, .ref ha, .int (nI kp), .ref ba, .int (nI hd), .ref wa])), (wa, .inl (kw, 512, .inl (aN wf)))] sz) := by
  refine Met.ofW (cc := cX6_answer) (maxL := 2) (ret := (some .int)) (by decide) rfl ?_
  intro p e s m args below meth c s₁ B hml hv
  obtain ⟨hargs, hsz, hP, hK, hD0⟩ := hv
  have hx := B.exec
  have hb := B.bytes
  have hr := B.returns
  have hts := atoms_spec (ws := wsX6_answer) B.pre
  have hown : s.vm.findClass RX6 = some m.cls := findClass_of_methodNamed B.named
  have hlocks := B.notSynchronized
  subst hsz
  have hD := hD0.self (sz := s.heap.size)
  generalize hAe : va_A [(mo, .inr (8, [.int (nI th), .ref ra, .ref ca, .ref ha, .int (nI kp), .ref ba, .int (nI hd), .ref wa])), (wa, .inl (kw, 512, .inl (aN wf)))] s.heap.size = A at hD ⊢
  have hA : ∀ q : Nat, s.heap.size ≤ q → A q := fun q h => by rw [← hAe]; exact Or.inr h
  have hS : va_S A s.heap s.heap [] := va_S.rf
  have hl := lv_entry ([.ref mo]) (n := 2) (Nat.le_of_ble_eq_true rfl)
  refine W.eq (g2 := F0 m 0 (lg_sl ([.ref mo]) ++ List.replicate (2 - (lg_sl ([.ref mo])).length) Slot.unset).toArray []) (by rw [hargs]; exact lg_entry_eq _ _ _) ?_
  generalize (lg_sl ([.ref mo]) ++ List.replicate (2 - (lg_sl ([.ref mo])).length) Slot.unset).toArray = ls at hl ⊢
  have hl : lv_has ls 2 [(0, .ref mo)] := hl
  refine lv_aload_n hx hb dX6_answer_0 rfl (lv_at hl 0 rfl) ?_
  have hPc := hP.sub (ws' := [(mo, .inr (8, [.int (nI th), .ref ra, .ref ca, .ref ha, .int (nI kp), .ref ba, .int (nI hd), .ref wa])), (wa, .inl (kw, 512, .inl (aN wf)))]) [0, 1] rfl
  have hDc := hD.sub (ws' := [(mo, .inr (8, [.int (nI th), .ref ra, .ref ca, .ref ha, .int (nI kp), .ref ba, .int (nI hd), .ref wa])), (wa, .inl (kw, 512, .inl (aN wf)))]) [0, 1] (by decide) rfl
  have hKc := hK.sub (tys' := [(kw, .int)]) [0] rfl
  have hFc := va_free (wc := [(mo, .inr (8, [.int (nI th), .ref ra, .ref ca, .ref ha, .int (nI kp), .ref ba, .int (nI hd), .ref wa])), (wa, .inl (kw, 512, .inl (aN wf)))]) hD hS hA [0, 1] rfl
  refine va_calli (va_runV (As := []) (rest := []) ⟨hx, hb, hml, hown, hts⟩ (c_X6_best_none l D s.heap.size mo ra ca ha ba wa kp hd th kw wf (by omega) (by omega) (by omega)) (cwV 0 hts gX6_answer_X6_best rfl rfl rfl (by decide +kernel) ⟨Nat.le_of_ble_eq_true rfl, Nat.le_of_ble_eq_true rfl⟩) ⟨(z_fb2), va_recv hK hP (ci := 8) (q0 := 0) rfl rfl, fun U hU hW => ⟨rfl, by rw [hU], by rw [hU]; exact hPc, va_K.moved hW.alike hKc, hDc.weaken (fun _ _ _ _ => trivial)⟩⟩ rfl rfl hl.1 rfl (lv_room (Nat.le_of_ble_eq_true rfl)) dX6_answer_1 ⟨z_room (c := (cbi hd wf 256)) rfl (by omega), z_room (c := (40 * cbi hd wf 256)) rfl (by omega)⟩) hS (fun q _ h => hFc q h) hFc (fun r1 u1 t H locs ht hvm e1 hB hz1 hk1 hS => ?_)
  obtain ⟨hP1, hK1, hD1⟩ := hB
  rw [ht] at hP1
  obtain ⟨hP, hD⟩ := va_join (wr := []) (w1 := [(mo, .inr (8, [.int (nI 0), .ref ra, .ref ca, .ref ha, .int (nI kp), .ref ba, .int (nI hd), .ref wa])), (wa, .inl (kw, 512, .inl (aN (wbi hd wf 256))))]) hP hD [0, 1] [] rfl rfl (by decide) (by decide) hk1 hFc hP1 hD1
  have hP : va_P D vwCl [(mo, .inr (8, [.int (nI 0), .ref ra, .ref ca, .ref ha, .int (nI kp), .ref ba, .int (nI hd), .ref wa])), (wa, .inl (kw, 512, .inl (aN (wbi hd wf 256))))] H := hP
  have hD : va_D A [(mo, .inr (8, [.int (nI 0), .ref ra, .ref ca, .ref ha, .int (nI kp), .ref ba, .int (nI hd), .ref wa])), (wa, .inl (kw, 512, .inl (aN (wbi hd wf 256))))] := hD
  refine W.widen (k := (cbi hd wf 256)) (n := (40 * cbi hd wf 256)) (by omega) (by omega) ?_
  subst e1
  refine lv_istore_n (lv' := [(1, .int (-1)), (0, .ref mo)]) hx hb dX6_answer_4 rfl hl (by decide) rfl (fun ls hl => ?_)
  refine lv_iload_n hx hb dX6_answer_5 rfl (lv_at hl 0 rfl) ?_
  refine lv_iconst (v := (-1)) hx hb dX6_answer_6 zki_m1 ?_
  refine lv_icmp_eq (tgt := 39) hx hb dX6_answer_7 (by decide) (fun c_7 => ?_) (fun c_7 => absurd rfl c_7)
  refine lv_iload_n hx hb dX6_answer_39 rfl (lv_at hl 0 rfl) ?_
  have hP9 := hP.sub (ws' := [(mo, .inr (8, [.int (nI 0), .ref ra, .ref ca, .ref ha, .int (nI kp), .ref ba, .int (nI hd), .ref wa])), (wa, .inl (kw, 512, .inl (aN (wbi hd wf 256))))]) [0, 1] rfl
  have hD9 := hD.sub (ws' := [(mo, .inr (8, [.int (nI 0), .ref ra, .ref ca, .ref ha, .int (nI kp), .ref ba, .int (nI hd), .ref wa])), (wa, .inl (kw, 512, .inl (aN (wbi hd wf 256))))]) [0, 1] (by decide) rfl
  have hK9 := hK.sub (tys' := [(kw, .int)]) [0] rfl
  subst hAe
  refine W.widen (k := (cbi hd wf 256)) (n := (40 * cbi hd wf 256)) (by omega) (by omega) ?_
  exact W.iret hx hb hr (fun t ht hW => ⟨⟨_, (), rfl, (rfl), by rw [ht]; exact hP9, va_K.moved hW.alike hK9, hD9⟩, hS.F ht⟩) hS.2.2 dX6_answer_40
