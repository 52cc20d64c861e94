/-! The reference: fields, the count of plays, the sweep, the checks of the whole. -/
theorem isf_r {b b2 b3 : Bool} {P : Nat → Prop} {k : Nat} (h6 : b2 = true ↔ (b = true ∧ ∀ y, y < k → P y)) (h8 : b3 = true ↔ (b2 = true ∧ P k)) : b3 = true ↔ (b = true ∧ ∀ y, y < k + 1 → P y) := by
  rw [h8, h6]
  constructor
  · rintro ⟨⟨q1, q2⟩, q3⟩
    refine ⟨q1, fun y hy => ?_⟩
    rcases Nat.lt_or_ge y k with q | q
    · exact q2 y q
    · rw [show y = k by omega]; exact q3
  · rintro ⟨q1, q2⟩
    exact ⟨⟨q1, fun y hy => q2 y (by omega)⟩, q2 k (by omega)⟩
theorem isf_e {b4 b5 : Bool} {i k : Nat} (h7 : b4 = true ↔ (i = 0 ∨ ∃ y, y < k ∧ np i y = 1)) (h9 : b5 = true ↔ (b4 = true ∨ np i k = 1)) : b5 = true ↔ (i = 0 ∨ ∃ y, y < k + 1 ∧ np i y = 1) := by
  rw [h9, h7]
  constructor
  · rintro ((q | ⟨y, q1, q2⟩) | q)
    · exact Or.inl q
    · exact Or.inr ⟨y, by omega, q2⟩
    · exact Or.inr ⟨k, by omega, q⟩
  · rintro (q | ⟨y, q1, q2⟩)
    · exact Or.inl (Or.inl q)
    · rcases Nat.lt_or_ge y k with q | q
      · exact Or.inl (Or.inr ⟨y, q, q2⟩)
      · rw [show y = k by omega] at q2; exact Or.inr q2
def isq (j x : Nat) : Prop := (∀ y, y < j → x ^^^ y < j ∧ np x y < j) ∧ (1 ≤ x → ∃ y, y < j ∧ np x y = 1)
theorem isf_o {b b2 b4 : Bool} {i j : Nat} (h5 : b = true ↔ (1 < j ∧ ∀ x, x < i → isq j x)) (h6 : b2 = true ↔ (b = true ∧ ∀ y, y < j → i ^^^ y < j ∧ np i y < j)) (h7 : b4 = true ↔ (i = 0 ∨ ∃ y, y < j ∧ np i y = 1)) :
    (b2 = true ∧ b4 = true) ↔ (1 < j ∧ ∀ x, x < i + 1 → isq j x) := by
  rw [h6, h5, h7]
  constructor
  · rintro ⟨⟨⟨q1, q2⟩, q3⟩, q4⟩
    refine ⟨q1, fun x hx => ?_⟩
    rcases Nat.lt_or_ge x i with q | q
    · exact q2 x q
    · rw [show x = i by omega]
      exact ⟨q3, fun h => q4.elim (fun z => absurd z (by omega)) (fun z => z)⟩
  · rintro ⟨q1, q2⟩
    refine ⟨⟨⟨q1, fun x hx => q2 x (by omega)⟩, (q2 i (by omega)).1⟩, ?_⟩
    rcases Nat.eq_zero_or_pos i with q | q
    · exact Or.inl q
    · exact Or.inr ((q2 i (by omega)).2 q)
theorem isf_d {b : Bool} {j : Nat} (h5 : b = true ↔ (1 < j ∧ ∀ x, x < j → isq j x)) : b = dB (isf j) := by
  have h : (1 < j ∧ ∀ x, x < j → isq j x) ↔ isf j := by
    constructor
    · rintro ⟨q1, q2⟩
      exact ⟨q1, fun x hx => (q2 x hx).1, fun x hx => (q2 x hx).2⟩
    · rintro ⟨q1, q2, q3⟩
      exact ⟨q1, fun x hx => ⟨q2 x hx, q3 x hx⟩⟩
  rw [h] at h5
  cases b with
  | true => exact (dB_t (h5.mp rfl)).symm
  | false => exact (dB_f (fun q => by cases h5.mpr q)).symm
/-- the plays of a board, place by place -/
def plk (b : Nat) : Nat → Nat
  | 0 => 0
  | p + 1 => plk b p + (if b.testBit p = true then (p / 4) * (p % 4) else 0)
theorem cn_blk (f : Nat → Bool) (a : Nat) : ∀ n, cn f (a + n) = cn f a + cn (fun k => f (a + k)) n
  | 0 => rfl
  | n + 1 => by
    rw [← Nat.add_assoc, cn, cn_blk f a n, cn]
    omega
theorem cn_ext {f g : Nat → Bool} : ∀ n, (∀ k, k < n → f k = g k) → cn f n = cn g n
  | 0, _ => rfl
  | n + 1, h => by rw [cn, cn, cn_ext n (fun k hk => h k (by omega)), h n (by omega)]
theorem cn_none (n : Nat) : cn (fun _ => false) n = 0 := by
  induction n with
  | zero => rfl
  | succ n ih => rw [cn, ih]; rfl
theorem plk_blk : ∀ p, p < 16 → cn (fun k => decide (k / 4 < p / 4) && decide (k % 4 < p % 4)) 16 = (p / 4) * (p % 4) := by decide +kernel
theorem plk_cn (b : Nat) : ∀ p, p ≤ 16 → cn (isp b) (16 * p) = plk b p
  | 0, _ => rfl
  | p + 1, hp => by
    rw [show 16 * (p + 1) = 16 * p + 16 by omega, cn_blk, plk_cn b p (by omega), plk]
    congr 1
    rw [cn_ext (g := fun k => b.testBit p && (decide (k / 4 < p / 4) && decide (k % 4 < p % 4))) 16 (fun k hk => by
      show isp b (16 * p + k) = _
      unfold isp
      rw [show 4 * ((16 * p + k) / 64) + (16 * p + k) / 16 % 4 = p by omega, show (16 * p + k) / 4 % 4 = k / 4 by omega, show (16 * p + k) / 64 = p / 4 by omega, show (16 * p + k) % 4 = k % 4 by omega, show (16 * p + k) / 16 % 4 = p % 4 by omega])]
    cases hb : b.testBit p with
    | true => rw [if_pos rfl, ← plk_blk p (by omega)]; rfl
    | false => rw [if_neg (by decide)]; exact cn_none 16
theorem plk_le (b : Nat) : ∀ p, p ≤ 16 → plk b p ≤ 9 * p
  | 0, _ => Nat.le_refl _
  | p + 1, hp => by
    have h1 := plk_le b p (by omega)
    have h2 : (p / 4) * (p % 4) ≤ 9 := Nat.mul_le_mul (show p / 4 ≤ 3 by omega) (show p % 4 ≤ 3 by omega)
    unfold plk
    split <;> omega
theorem plk_0 (b x : Nat) (hx : x < 4) : plk b (4 * x + 1) = plk b (4 * x) := by
  rw [plk, show 4 * x % 4 = 0 by omega, Nat.mul_zero]
  split <;> rfl
theorem plk_5 (b : Nat) : plk b 5 = 0 := by
  simp [plk]
/-- the bits of a board, one by one -/
def pcs : Nat → Nat → Nat
  | 0, _ => 0
  | d + 1, n => Nat.add (Nat.mod n 2) (pcs d (Nat.div n 2))
theorem pcs_s (d n : Nat) : pcs (d + 1) n = n % 2 + pcs d (n / 2) := rfl
theorem pcs_0 : ∀ d, pcs d 0 = 0
  | 0 => rfl
  | d + 1 => by rw [pcs_s, pcs_0 d]
set_option maxRecDepth 100000 in
theorem ck_pc : alln 256 (fun h => alln 256 (fun k => Nat.beq (bcf (Nat.add (Nat.mul 256 h) k)) (pcs 16 (Nat.add (Nat.mul 256 h) k)))) = true := by decide +kernel
theorem pcs_bcf {n : Nat} (h : n < 65536) : bcf n = pcs 16 n := by
  have h1 := alln_at (alln_at ck_pc (n / 256) (by omega)) (n % 256) (by omega)
  have h2 := Nat.eq_of_beq_eq_true h1
  rw [show Nat.add (Nat.mul 256 (n / 256)) (n % 256) = n from by show 256 * (n / 256) + n % 256 = n; omega] at h2
  exact h2
theorem pcs_le : ∀ d n, pcs d n ≤ d
  | 0, _ => Nat.le_refl _
  | d + 1, n => by have := pcs_le d (n / 2); rw [pcs_s]; omega
theorem nX6_isField_inX6 : ∀ w ∈ u_ws RX6 TX6 8, w ∈ wsX6_isField := by decide +kernel
theorem nX6_plays_inX6 : ∀ w ∈ u_ws RX6 TX6 8, w ∈ wsX6_plays := by decide +kernel
theorem nX6_sweep_inX6 : ∀ w ∈ u_ws RX6 TX6 8, w ∈ wsX6_sweep := by decide +kernel
theorem nX6_mean_inX6 : ∀ w ∈ u_ws RX6 TX6 8, w ∈ wsX6_mean := by decide +kernel
abbrev rm_c_X6_isField_ok : Room := { frames := 4, cells := 0, slots := 0, locals := 116 }
abbrev q_c_X6_isField_ok (D : va_G) (sz : Nat) (mo : Nat) (ra : Nat) (ca : Nat) (ha : Nat) (ba : Nat) (wa : Nat) (kp : Nat) (hd : Nat) (th : Nat) (j : Nat) : Array Value → State → Outcome → State → Prop := va_Qi (fun r (_ : Unit) => r = (bI (dB (isf j)))) (fun (_ : Unit) t => va_P D vwCl [(mo, .inr (8, [.int (nI 0), .ref ra, .ref ca, .ref ha, .int (nI kp), .ref ba, .int (nI hd), .ref wa]))] t.heap ∧ va_K D vwCl [] t ∧ va_D (va_A [(mo, .inr (8, [.int (nI th), .ref ra, .ref ca, .ref ha, .int (nI kp), .ref ba, .int (nI hd), .ref wa]))] sz) [(mo, .inr (8, [.int (nI 0), .ref ra, .ref ca, .ref ha, .int (nI kp), .ref ba, .int (nI hd), .ref wa]))]) (va_A [(mo, .inr (8, [.int (nI th), .ref ra, .ref ca, .ref ha, .int (nI kp), .ref ba, .int (nI hd), .ref wa]))] sz)
set_option maxHeartbeats 4000000 in
set_option maxRecDepth 100000 in
theorem c_X6_isField_ok (l : Launch) (D : va_G) (sz : Nat) (mo : Nat) (ra : Nat) (ca : Nat) (ha : Nat) (ba : Nat) (wa : Nat) (kp : Nat) (hd : Nat) (th : Nat) (j : Nat) (hj1 : 1 ≤ j) (hj : j ≤ 16) : Met l yX6_isField wsX6_isField rm_c_X6_isField_ok (va_Pc [.ref mo, .int (nI j)] (fun U => U.heap.size = sz ∧ va_P D vwCl [(mo, .inr (8, [.int (nI th), .ref ra, .ref ca, .ref ha, .int (nI kp), .ref ba, .int (nI hd), .ref wa]))] U.heap ∧ va_K D vwCl [] U ∧ va_D (fun _ => True) [(mo, .inr (8, [.int (nI th), .ref ra, .ref ca, .ref ha, .int (nI kp), .ref ba, .int (nI hd), .ref wa]))])) (q_c_X6_isField_ok D sz mo ra ca ha ba wa kp hd th j) 0 0 (va_A [(mo, .inr (8, [.int (nI th), .ref ra, .ref ca, .ref ha, .int (nI kp), .ref ba, .int (nI hd), .ref wa]))] sz) := by
  refine Met.ofW (cc := cX6_isField) (maxL := 6) (ret := (some .boolean)) (by decide) rfl ?_
  intro p e s m args below meth c s₁ B hml hv
  obtain ⟨hargs, hsz, hP, hK, hD0⟩ := hv
  have hx := B.exec
  have hb := B.bytes
  have hr := B.returns
  have hts := atoms_spec (ws := wsX6_isField) B.pre
  have hown : s.vm.findClass RX6 = some m.cls := findClass_of_methodNamed B.named
  have hlocks := B.notSynchronized
  subst hsz
  have hD := hD0.self (sz := s.heap.size)
  generalize hAe : va_A [(mo, .inr (8, [.int (nI th), .ref ra, .ref ca, .ref ha, .int (nI kp), .ref ba, .int (nI hd), .ref wa]))] s.heap.size = A at hD ⊢
  have hA : ∀ q : Nat, s.heap.size ≤ q → A q := fun q h => by rw [← hAe]; exact Or.inr h
  have hS : va_S A s.heap s.heap [] := va_S.rf
  have hl := lv_entry ([.ref mo, .int (nI j)]) (n := 6) (Nat.le_of_ble_eq_true rfl)
  refine W.eq (g2 := F0 m 0 (lg_sl ([.ref mo, .int (nI j)]) ++ List.replicate (6 - (lg_sl ([.ref mo, .int (nI j)])).length) Slot.unset).toArray []) (by rw [hargs]; exact lg_entry_eq _ _ _) ?_
  generalize (lg_sl ([.ref mo, .int (nI j)]) ++ List.replicate (6 - (lg_sl ([.ref mo, .int (nI j)])).length) Slot.unset).toArray = ls at hl ⊢
  have hl : lv_has ls 6 [(0, .ref mo), (1, .int (nI j))] := hl
  refine lv_aload_n hx hb dX6_isField_0 rfl (lv_at hl 0 rfl) ?_
  refine lv_iconst (v := nI 0) hx hb dX6_isField_1 zki_0 ?_
  refine va_put (D := D) (ci := 8) (v := .int (nI 0)) (ty := .int) (C := RX6) (T := TX6) (N := 8) hx hb hts nX6_isField_inX6 tyX6 tyX6_ok nmX6 hown hK hP hD hS 0 rfl rfl 0 (by decide) (hts (.fieldLink RX6 26 "GamefieldModel" "thrown" "I") (by decide +kernel)) (fun _ h9 => h9) rfl (by decide +kernel) rfl rfl (Nat.le_of_ble_eq_true rfl) dX6_isField_2 (fun H locs hP hD hS => ?_)
  have hP : va_P D vwCl [(mo, .inr (8, [.int (nI 0), .ref ra, .ref ca, .ref ha, .int (nI kp), .ref ba, .int (nI hd), .ref wa]))] H := hP
  have hD : va_D A [(mo, .inr (8, [.int (nI 0), .ref ra, .ref ca, .ref ha, .int (nI kp), .ref ba, .int (nI hd), .ref wa]))] := hD
  refine lv_aload_n hx hb dX6_isField_5 rfl (lv_at hl 0 rfl) ?_
  refine lv_iload_n hx hb dX6_isField_6 rfl (lv_at hl 1 rfl) ?_
  refine lv_iconst (v := nI 1) hx hb dX6_isField_7 zki_1 ?_
  refine z_clt (tgt := 17) hx hb (by omega) (by omega) dX6_isField_8 (by decide) (fun c_8 => absurd c_8 (by omega)) (fun c_8 => ?_)
  refine lv_iload_n hx hb dX6_isField_11 rfl (lv_at hl 1 rfl) ?_
  refine lv_bipush (v := nI 16) hx hb dX6_isField_12 zkb_16 ?_
  refine z_cle (tgt := 21) hx hb (by omega) (by omega) dX6_isField_14 (by decide) (fun c_14 => ?_) (fun c_14 => absurd c_14 (by omega))
  refine lv_iconst (v := nI 0) hx hb dX6_isField_21 zki_0 ?_
  refine lv_iconst (v := nI 1) hx hb dX6_isField_22 zki_1 ?_
  have hPc := hP.sub (ws' := [(mo, .inr (8, [.int (nI 0), .ref ra, .ref ca, .ref ha, .int (nI kp), .ref ba, .int (nI hd), .ref wa]))]) [0] rfl
  have hDc := hD.sub (ws' := [(mo, .inr (8, [.int (nI 0), .ref ra, .ref ca, .ref ha, .int (nI kp), .ref ba, .int (nI hd), .ref wa]))]) [0] (by decide) rfl
  have hKc := hK.sub (tys' := []) [] rfl
  have hFc := va_free (wc := [(mo, .inr (8, [.int (nI 0), .ref ra, .ref ca, .ref ha, .int (nI kp), .ref ba, .int (nI hd), .ref wa]))]) hD hS hA [0] rfl
  refine va_calli (va_runV (As := [.int (nI 0), .int (nI 1)]) (rest := []) ⟨hx, hb, hml, hown, hts⟩ (c_X6_fails_false l D H.size mo ra ca ha ba wa kp hd 1 (by omega) (by omega)) (cwV 2 hts gX6_isField_X6_fails rfl rfl rfl (by decide +kernel) ⟨Nat.le_of_ble_eq_true rfl, Nat.le_of_ble_eq_true rfl⟩) ⟨(z_fb2), va_recv hK hP (ci := 8) (q0 := 0) rfl rfl, fun U hU hW => ⟨rfl, by rw [hU], by rw [hU]; exact hPc, va_K.moved hW.alike hKc, hDc.weaken (fun _ _ _ _ => trivial)⟩⟩ rfl rfl hl.1 rfl (lv_room (Nat.le_of_ble_eq_true rfl)) dX6_isField_23 ⟨Nat.le_of_ble_eq_true rfl, Nat.le_of_ble_eq_true rfl⟩) hS (fun q _ h => hFc q h) hFc (fun r23 u23 t H locs ht hvm e23 hB hz1 hk1 hS => ?_)
  obtain ⟨hP1, hK1, hD1⟩ := hB
  rw [ht] at hP1
  obtain ⟨hP, hD⟩ := va_join (wr := []) (w1 := [(mo, .inr (8, [.int (nI 0), .ref ra, .ref ca, .ref ha, .int (nI kp), .ref ba, .int (nI hd), .ref wa]))]) hP hD [0] [] rfl rfl (by decide) (by decide) hk1 hFc hP1 hD1
  have hP : va_P D vwCl [(mo, .inr (8, [.int (nI 0), .ref ra, .ref ca, .ref ha, .int (nI kp), .ref ba, .int (nI hd), .ref wa]))] H := hP
  have hD : va_D A [(mo, .inr (8, [.int (nI 0), .ref ra, .ref ca, .ref ha, .int (nI kp), .ref ba, .int (nI hd), .ref wa]))] := hD
  refine W.widen (k := 0) (n := 0) (Nat.le_of_ble_eq_true rfl) (Nat.le_of_ble_eq_true rfl) ?_
  subst e23
  refine z_beq (tgt := 31) hx hb dX6_isField_26 (by decide) (fun c_26 => ?_) (fun c_26 => absurd c_26 (by decide))
  have cut_44 : ∀ (nn9 : Nat) (i : Nat) (b : Bool) (hi : i ≤ j) (hb5 : b = true ↔ (1 < j ∧ ∀ x, x < i → isq j x)) (hn9 : j - i < nn9) (H : Heap) (locs : List Loc) (hP : va_P D vwCl [(mo, .inr (8, [.int (nI 0), .ref ra, .ref ca, .ref ha, .int (nI kp), .ref ba, .int (nI hd), .ref wa]))] H) (hD : va_D A [(mo, .inr (8, [.int (nI 0), .ref ra, .ref ca, .ref ha, .int (nI kp), .ref ba, .int (nI hd), .ref wa]))]) (hS : va_S A s.heap H locs) (ls : Array Slot) (hl : lv_has ls 6 [(0, .ref mo), (1, .int (nI j)), (2, .int (bI b)), (3, .int (nI i))]), W p l e (headSpec wsX6_isField rm_c_X6_isField_ok).room s m args below meth c H locs 0 0 (MQ below (q_c_X6_isField_ok D s.heap.size mo ra ca ha ba wa kp hd th j) args s 0 0 A) (F0 m 44 ls []) := by
    intro nn9
    induction nn9 with
    | zero => intro i b hi hb5 hn9; exact absurd hn9 (Nat.not_lt_zero _)
    | succ nn9 ih_44 =>
      intro i b hi hb5 hn9 H locs hP hD hS ls hl
      refine lv_iload_n hx hb dX6_isField_44 rfl (lv_at hl 3 rfl) ?_
      refine lv_iload_n hx hb dX6_isField_45 rfl (lv_at hl 1 rfl) ?_
      refine z_cge (tgt := 148) hx hb (by omega) (by omega) dX6_isField_46 (by decide) (fun c_46 => ?_) (fun c_46 => ?_)
      · refine lv_iload_n hx hb dX6_isField_148 rfl (lv_at hl 2 rfl) ?_
        have hP9 := hP.sub (ws' := [(mo, .inr (8, [.int (nI 0), .ref ra, .ref ca, .ref ha, .int (nI kp), .ref ba, .int (nI hd), .ref wa]))]) [0] rfl
        have hD9 := hD.sub (ws' := [(mo, .inr (8, [.int (nI 0), .ref ra, .ref ca, .ref ha, .int (nI kp), .ref ba, .int (nI hd), .ref wa]))]) [0] (by decide) rfl
        have hK9 := hK.sub (tys' := []) [] rfl
        subst hAe
        refine W.widen (k := 0) (n := 0) (Nat.le_of_ble_eq_true rfl) (Nat.le_of_ble_eq_true rfl) ?_
        exact W.zret (ty := .boolean) hx hb hr (z_narB _) (fun t ht hW => ⟨⟨_, (), rfl, (congrArg bI (isf_d (by rw [show i = j by omega] at hb5; exact hb5))), by rw [ht]; exact hP9, va_K.moved hW.alike hK9, hD9⟩, hS.F ht⟩) hS.2.2 dX6_isField_149
      · have cut_63 : ∀ (nn9 : Nat) (k : Nat) (b2 : Bool) (b4 : Bool) (hk : k ≤ j) (hb6 : b2 = true ↔ (b = true ∧ ∀ y, y < k → i ^^^ y < j ∧ np i y < j)) (hb7 : b4 = true ↔ (i = 0 ∨ ∃ y, y < k ∧ np i y = 1)) (hn9 : j - k < nn9) (H : Heap) (locs : List Loc) (hP : va_P D vwCl [(mo, .inr (8, [.int (nI 0), .ref ra, .ref ca, .ref ha, .int (nI kp), .ref ba, .int (nI hd), .ref wa]))] H) (hD : va_D A [(mo, .inr (8, [.int (nI 0), .ref ra, .ref ca, .ref ha, .int (nI kp), .ref ba, .int (nI hd), .ref wa]))]) (hS : va_S A s.heap H locs) (ls : Array Slot) (hl : lv_has ls 6 [(0, .ref mo), (1, .int (nI j)), (2, .int (bI b2)), (3, .int (nI i)), (4, .int (bI b4)), (5, .int (nI k))]), W p l e (headSpec wsX6_isField rm_c_X6_isField_ok).room s m args below meth c H locs 0 0 (MQ below (q_c_X6_isField_ok D s.heap.size mo ra ca ha ba wa kp hd th j) args s 0 0 A) (F0 m 63 ls []) := by
          intro nn9
          induction nn9 with
          | zero => intro k b2 b4 hk hb6 hb7 hn9; exact absurd hn9 (Nat.not_lt_zero _)
          | succ nn9 ih_63 =>
            intro k b2 b4 hk hb6 hb7 hn9 H locs hP hD hS ls hl
            refine lv_iload hx hb dX6_isField_63 (lv_at hl 5 rfl) ?_
            refine lv_iload_n hx hb dX6_isField_65 rfl (lv_at hl 1 rfl) ?_
            refine z_cge (tgt := 127) hx hb (by omega) (by omega) dX6_isField_66 (by decide) (fun c_66 => ?_) (fun c_66 => ?_)
            · have hkj : k = j := by omega
              rw [hkj] at hb6 hb7
              refine lv_iload_n hx hb dX6_isField_127 rfl (lv_at hl 2 rfl) ?_
              refine z_beq (tgt := 140) hx hb dX6_isField_128 (by decide) (fun c_128 => ?_) (fun c_128 => ?_)
              · refine lv_iconst (v := nI 0) hx hb dX6_isField_140 zki_0 ?_
                refine lv_istore_n (lv' := [(2, .int (nI 0)), (0, .ref mo), (1, .int (nI j)), (3, .int (nI i)), (4, .int (bI b4)), (5, .int (nI k))]) hx hb dX6_isField_141 rfl hl (by decide) rfl (fun ls hl => ?_)
                refine lv_iinc (v := (nI (i + 1))) (lv' := [(3, .int (nI (i + 1))), (2, .int (nI 0)), (0, .ref mo), (1, .int (nI j)), (4, .int (bI b4)), (5, .int (nI k))]) hx hb dX6_isField_142 hl (k := 3) rfl (z_inc i 1) (by decide) rfl (fun ls hl => ?_)
                refine lv_goto (tgt := 44) hx hb dX6_isField_145 (by decide) ?_
                exact ih_44 (i + 1) false (by omega) (by first | exact ⟨fun _ => (isf_o hb5 hb6 hb7).mp ⟨c_128, c_133⟩, fun _ => rfl⟩ | exact ⟨fun h => absurd h (by decide), fun h => absurd ((isf_o hb5 hb6 hb7).mpr h).1 (by rw [c_128]; decide)⟩ | exact ⟨fun h => absurd h (by decide), fun h => absurd ((isf_o hb5 hb6 hb7).mpr h).2 (by rw [c_133]; decide)⟩) (by omega) H locs hP hD hS ls (lv_sub hl [2, 3, 1, 0] rfl)
              · refine lv_iload hx hb dX6_isField_131 (lv_at hl 4 rfl) ?_
                refine z_beq (tgt := 140) hx hb dX6_isField_133 (by decide) (fun c_133 => ?_) (fun c_133 => ?_)
                · refine lv_iconst (v := nI 0) hx hb dX6_isField_140 zki_0 ?_
                  refine lv_istore_n (lv' := [(2, .int (nI 0)), (0, .ref mo), (1, .int (nI j)), (3, .int (nI i)), (4, .int (bI b4)), (5, .int (nI k))]) hx hb dX6_isField_141 rfl hl (by decide) rfl (fun ls hl => ?_)
                  refine lv_iinc (v := (nI (i + 1))) (lv' := [(3, .int (nI (i + 1))), (2, .int (nI 0)), (0, .ref mo), (1, .int (nI j)), (4, .int (bI b4)), (5, .int (nI k))]) hx hb dX6_isField_142 hl (k := 3) rfl (z_inc i 1) (by decide) rfl (fun ls hl => ?_)
                  refine lv_goto (tgt := 44) hx hb dX6_isField_145 (by decide) ?_
                  exact ih_44 (i + 1) false (by omega) (by first | exact ⟨fun _ => (isf_o hb5 hb6 hb7).mp ⟨c_128, c_133⟩, fun _ => rfl⟩ | exact ⟨fun h => absurd h (by decide), fun h => absurd ((isf_o hb5 hb6 hb7).mpr h).1 (by rw [c_128]; decide)⟩ | exact ⟨fun h => absurd h (by decide), fun h => absurd ((isf_o hb5 hb6 hb7).mpr h).2 (by rw [c_133]; decide)⟩) (by omega) H locs hP hD hS ls (lv_sub hl [2, 3, 1, 0] rfl)
                · refine lv_iconst (v := nI 1) hx hb dX6_isField_136 zki_1 ?_
                  refine lv_goto (tgt := 141) hx hb dX6_isField_137 (by decide) ?_
                  refine lv_istore_n (lv' := [(2, .int (nI 1)), (0, .ref mo), (1, .int (nI j)), (3, .int (nI i)), (4, .int (bI b4)), (5, .int (nI k))]) hx hb dX6_isField_141 rfl hl (by decide) rfl (fun ls hl => ?_)
                  refine lv_iinc (v := (nI (i + 1))) (lv' := [(3, .int (nI (i + 1))), (2, .int (nI 1)), (0, .ref mo), (1, .int (nI j)), (4, .int (bI b4)), (5, .int (nI k))]) hx hb dX6_isField_142 hl (k := 3) rfl (z_inc i 1) (by decide) rfl (fun ls hl => ?_)
                  refine lv_goto (tgt := 44) hx hb dX6_isField_145 (by decide) ?_
                  exact ih_44 (i + 1) true (by omega) (by first | exact ⟨fun _ => (isf_o hb5 hb6 hb7).mp ⟨c_128, c_133⟩, fun _ => rfl⟩ | exact ⟨fun h => absurd h (by decide), fun h => absurd ((isf_o hb5 hb6 hb7).mpr h).1 (by rw [c_128]; decide)⟩ | exact ⟨fun h => absurd h (by decide), fun h => absurd ((isf_o hb5 hb6 hb7).mpr h).2 (by rw [c_133]; decide)⟩) (by omega) H locs hP hD hS ls (lv_sub hl [2, 3, 1, 0] rfl)
            · refine lv_iload_n hx hb dX6_isField_69 rfl (lv_at hl 2 rfl) ?_
              have cut_98 : ∀  (b3 : Bool) (hb8 : b3 = true ↔ (b2 = true ∧ i ^^^ k < j ∧ np i k < j)) (H : Heap) (locs : List Loc) (hP : va_P D vwCl [(mo, .inr (8, [.int (nI 0), .ref ra, .ref ca, .ref ha, .int (nI kp), .ref ba, .int (nI hd), .ref wa]))] H) (hD : va_D A [(mo, .inr (8, [.int (nI 0), .ref ra, .ref ca, .ref ha, .int (nI kp), .ref ba, .int (nI hd), .ref wa]))]) (hS : va_S A s.heap H locs) (ls : Array Slot) (hl : lv_has ls 6 [(0, .ref mo), (1, .int (nI j)), (3, .int (nI i)), (4, .int (bI b4)), (5, .int (nI k))]), W p l e (headSpec wsX6_isField rm_c_X6_isField_ok).room s m args below meth c H locs 0 0 (MQ below (q_c_X6_isField_ok D s.heap.size mo ra ca ha ba wa kp hd th j) args s 0 0 A) (F0 m 98 ls [.int (bI b3)]) := by
                intro b3 hb8 H locs hP hD hS ls hl
                refine lv_istore_n (lv' := [(2, .int (bI b3)), (0, .ref mo), (1, .int (nI j)), (3, .int (nI i)), (4, .int (bI b4)), (5, .int (nI k))]) hx hb dX6_isField_98 rfl hl (by decide) rfl (fun ls hl => ?_)
                have cut_119 : ∀  (b5 : Bool) (hb9 : b5 = true ↔ (b4 = true ∨ np i k = 1)) (H : Heap) (locs : List Loc) (hP : va_P D vwCl [(mo, .inr (8, [.int (nI 0), .ref ra, .ref ca, .ref ha, .int (nI kp), .ref ba, .int (nI hd), .ref wa]))] H) (hD : va_D A [(mo, .inr (8, [.int (nI 0), .ref ra, .ref ca, .ref ha, .int (nI kp), .ref ba, .int (nI hd), .ref wa]))]) (hS : va_S A s.heap H locs) (ls : Array Slot) (hl : lv_has ls 6 [(0, .ref mo), (1, .int (nI j)), (2, .int (bI b3)), (3, .int (nI i)), (5, .int (nI k))]), W p l e (headSpec wsX6_isField rm_c_X6_isField_ok).room s m args below meth c H locs 0 0 (MQ below (q_c_X6_isField_ok D s.heap.size mo ra ca ha ba wa kp hd th j) args s 0 0 A) (F0 m 119 ls [.int (bI b5)]) := by
                  intro b5 hb9 H locs hP hD hS ls hl
                  refine lv_istore (lv' := [(4, .int (bI b5)), (0, .ref mo), (1, .int (nI j)), (2, .int (bI b3)), (3, .int (nI i)), (5, .int (nI k))]) hx hb dX6_isField_119 hl (by decide) rfl (fun ls hl => ?_)
                  refine lv_iinc (v := (nI (k + 1))) (lv' := [(5, .int (nI (k + 1))), (4, .int (bI b5)), (0, .ref mo), (1, .int (nI j)), (2, .int (bI b3)), (3, .int (nI i))]) hx hb dX6_isField_121 hl (k := 5) rfl (z_inc k 1) (by decide) rfl (fun ls hl => ?_)
                  refine lv_goto (tgt := 63) hx hb dX6_isField_124 (by decide) ?_
                  exact ih_63 (k + 1) b3 b5 (by omega) (isf_r (P := fun y => i ^^^ y < j ∧ np i y < j) hb6 hb8) (isf_e hb7 hb9) (by omega) H locs hP hD hS ls (lv_sub hl [2, 3, 4, 5, 1, 0] rfl)
                refine lv_iload hx hb dX6_isField_99 (lv_at hl 4 rfl) ?_
                refine z_bne (tgt := 114) hx hb dX6_isField_101 (by decide) (fun c_101 => ?_) (fun c_101 => ?_)
                · refine lv_iconst (v := nI 1) hx hb dX6_isField_114 zki_1 ?_
                  refine lv_goto (tgt := 119) hx hb dX6_isField_115 (by decide) ?_
                  exact cut_119 true (⟨fun _ => by first | exact Or.inl c_101 | exact Or.inr c_111, fun _ => rfl⟩) H locs hP hD hS ls (lv_sub hl [1, 2, 0, 3, 5] rfl)
                · refine lv_iload_n hx hb dX6_isField_104 rfl (lv_at hl 3 rfl) ?_
                  refine lv_iload hx hb dX6_isField_105 (lv_at hl 5 rfl) ?_
                  refine z_ci (va_runS (As := [.int (nI i), .int (nI k)]) (rest := []) ⟨hx, hb, hml, hown, hts⟩ (c_X6_productOf_256 l D i k (by omega) (by omega)) (va_cwS 2 hts gX6_isField_X6_productOf rfl rfl rfl (by decide +kernel) ⟨Nat.le_of_ble_eq_true rfl, Nat.le_of_ble_eq_true rfl⟩) ⟨z_fb0, fun U hU hW => ⟨rfl, trivial⟩⟩ rfl rfl hl.1 rfl (lv_room (Nat.le_of_ble_eq_true rfl)) dX6_isField_107 ⟨Nat.le_of_ble_eq_true rfl, Nat.le_of_ble_eq_true rfl⟩) (fun r107 e107 => ?_)
                  subst e107
                  have hn107 : np i k < 256 := np_lt (by omega) (by omega)
                  refine lv_iconst (v := nI 1) hx hb dX6_isField_110 zki_1 ?_
                  refine z_cne (tgt := 118) hx hb (by omega) (by omega) dX6_isField_111 (by decide) (fun c_111 => ?_) (fun c_111 => ?_)
                  · refine lv_iconst (v := nI 0) hx hb dX6_isField_118 zki_0 ?_
                    exact cut_119 false (⟨fun h => absurd h (by decide), fun h => h.elim (fun q => by rw [c_101] at q; cases q) (fun q => absurd q c_111)⟩) H locs hP hD hS ls (lv_sub hl [1, 2, 0, 3, 5] rfl)
                  · refine lv_iconst (v := nI 1) hx hb dX6_isField_114 zki_1 ?_
                    refine lv_goto (tgt := 119) hx hb dX6_isField_115 (by decide) ?_
                    exact cut_119 true (⟨fun _ => by first | exact Or.inl c_101 | exact Or.inr c_111, fun _ => rfl⟩) H locs hP hD hS ls (lv_sub hl [1, 2, 0, 3, 5] rfl)
              refine z_beq (tgt := 97) hx hb dX6_isField_70 (by decide) (fun c_70 => ?_) (fun c_70 => ?_)
              · refine lv_iconst (v := nI 0) hx hb dX6_isField_97 zki_0 ?_
                exact cut_98 false (⟨fun h => absurd h (by decide), fun h => by first | (rw [c_70] at h; exact absurd h.1 (by decide)) | exact absurd h.2.1 (by omega) | exact absurd h.2.2 (by omega)⟩) H locs hP hD hS ls (lv_sub hl [0, 1, 3, 4, 5] rfl)
              · refine lv_iload_n hx hb dX6_isField_73 rfl (lv_at hl 3 rfl) ?_
                refine lv_iload hx hb dX6_isField_74 (lv_at hl 5 rfl) ?_
                refine z_ci (va_runS (As := [.int (nI i), .int (nI k)]) (rest := []) ⟨hx, hb, hml, hown, hts⟩ (c_X6_sumOf l D i k (by omega) (by omega)) (va_cwS 2 hts gX6_isField_X6_sumOf rfl rfl rfl (by decide +kernel) ⟨Nat.le_of_ble_eq_true rfl, Nat.le_of_ble_eq_true rfl⟩) ⟨z_fb0, fun U hU hW => ⟨rfl, trivial⟩⟩ rfl rfl hl.1 rfl (lv_room (Nat.le_of_ble_eq_true rfl)) dX6_isField_76 ⟨Nat.le_of_ble_eq_true rfl, Nat.le_of_ble_eq_true rfl⟩) (fun r76 e76 => ?_)
                subst e76
                have hx76 : i ^^^ k < 256 := zx8 (by omega) (by omega)
                refine lv_iload_n hx hb dX6_isField_79 rfl (lv_at hl 1 rfl) ?_
                refine z_cge (tgt := 97) hx hb (by omega) (by omega) dX6_isField_80 (by decide) (fun c_80 => ?_) (fun c_80 => ?_)
                · refine lv_iconst (v := nI 0) hx hb dX6_isField_97 zki_0 ?_
                  exact cut_98 false (⟨fun h => absurd h (by decide), fun h => by first | (rw [c_70] at h; exact absurd h.1 (by decide)) | exact absurd h.2.1 (by omega) | exact absurd h.2.2 (by omega)⟩) H locs hP hD hS ls (lv_sub hl [0, 1, 3, 4, 5] rfl)
                · refine lv_iload_n hx hb dX6_isField_83 rfl (lv_at hl 3 rfl) ?_
                  refine lv_iload hx hb dX6_isField_84 (lv_at hl 5 rfl) ?_
                  refine z_ci (va_runS (As := [.int (nI i), .int (nI k)]) (rest := []) ⟨hx, hb, hml, hown, hts⟩ (c_X6_productOf_256 l D i k (by omega) (by omega)) (va_cwS 2 hts gX6_isField_X6_productOf rfl rfl rfl (by decide +kernel) ⟨Nat.le_of_ble_eq_true rfl, Nat.le_of_ble_eq_true rfl⟩) ⟨z_fb0, fun U hU hW => ⟨rfl, trivial⟩⟩ rfl rfl hl.1 rfl (lv_room (Nat.le_of_ble_eq_true rfl)) dX6_isField_86 ⟨Nat.le_of_ble_eq_true rfl, Nat.le_of_ble_eq_true rfl⟩) (fun r86 e86 => ?_)
                  subst e86
                  have hn86 : np i k < 256 := np_lt (by omega) (by omega)
                  refine lv_iload_n hx hb dX6_isField_89 rfl (lv_at hl 1 rfl) ?_
                  refine z_cge (tgt := 97) hx hb (by omega) (by omega) dX6_isField_90 (by decide) (fun c_90 => ?_) (fun c_90 => ?_)
                  · refine lv_iconst (v := nI 0) hx hb dX6_isField_97 zki_0 ?_
                    exact cut_98 false (⟨fun h => absurd h (by decide), fun h => by first | (rw [c_70] at h; exact absurd h.1 (by decide)) | exact absurd h.2.1 (by omega) | exact absurd h.2.2 (by omega)⟩) H locs hP hD hS ls (lv_sub hl [0, 1, 3, 4, 5] rfl)
                  · refine lv_iconst (v := nI 1) hx hb dX6_isField_93 zki_1 ?_
                    refine lv_goto (tgt := 98) hx hb dX6_isField_94 (by decide) ?_
                    exact cut_98 true (⟨fun _ => ⟨c_70, c_80, c_90⟩, fun _ => rfl⟩) H locs hP hD hS ls (lv_sub hl [0, 1, 3, 4, 5] rfl)
        refine lv_iload_n hx hb dX6_isField_49 rfl (lv_at hl 3 rfl) ?_
        refine z_fne (tgt := 57) hx hb (by omega) dX6_isField_50 (by decide) (fun c_50 => ?_) (fun c_50 => ?_)
        · refine lv_iconst (v := nI 0) hx hb dX6_isField_57 zki_0 ?_
          refine lv_istore (lv' := [(4, .int (nI 0)), (0, .ref mo), (1, .int (nI j)), (2, .int (bI b)), (3, .int (nI i))]) hx hb dX6_isField_58 hl (by decide) rfl (fun ls hl => ?_)
          refine lv_iconst (v := nI 0) hx hb dX6_isField_60 zki_0 ?_
          refine lv_istore (lv' := [(5, .int (nI 0)), (4, .int (nI 0)), (0, .ref mo), (1, .int (nI j)), (2, .int (bI b)), (3, .int (nI i))]) hx hb dX6_isField_61 hl (by decide) rfl (fun ls hl => ?_)
          exact cut_63 ((j - 0) + 1) 0 b false (by omega) (⟨fun h => ⟨h, fun y q => absurd q (Nat.not_lt_zero y)⟩, fun h => h.1⟩) (by first | exact ⟨fun _ => Or.inl (by omega), fun _ => rfl⟩ | exact ⟨fun h => absurd h (by decide), fun h => h.elim (fun q => absurd q (by omega)) (fun ⟨y, q, _⟩ => absurd q (Nat.not_lt_zero y))⟩) (Nat.lt_succ_self _) H locs hP hD hS ls (lv_sub hl [2, 3, 4, 5, 1, 0] rfl)
        · refine lv_iconst (v := nI 1) hx hb dX6_isField_53 zki_1 ?_
          refine lv_goto (tgt := 58) hx hb dX6_isField_54 (by decide) ?_
          refine lv_istore (lv' := [(4, .int (nI 1)), (0, .ref mo), (1, .int (nI j)), (2, .int (bI b)), (3, .int (nI i))]) hx hb dX6_isField_58 hl (by decide) rfl (fun ls hl => ?_)
          refine lv_iconst (v := nI 0) hx hb dX6_isField_60 zki_0 ?_
          refine lv_istore (lv' := [(5, .int (nI 0)), (4, .int (nI 1)), (0, .ref mo), (1, .int (nI j)), (2, .int (bI b)), (3, .int (nI i))]) hx hb dX6_isField_61 hl (by decide) rfl (fun ls hl => ?_)
          exact cut_63 ((j - 0) + 1) 0 b true (by omega) (⟨fun h => ⟨h, fun y q => absurd q (Nat.not_lt_zero y)⟩, fun h => h.1⟩) (by first | exact ⟨fun _ => Or.inl (by omega), fun _ => rfl⟩ | exact ⟨fun h => absurd h (by decide), fun h => h.elim (fun q => absurd q (by omega)) (fun ⟨y, q, _⟩ => absurd q (Nat.not_lt_zero y))⟩) (Nat.lt_succ_self _) H locs hP hD hS ls (lv_sub hl [2, 3, 4, 5, 1, 0] rfl)
  refine lv_iload_n hx hb dX6_isField_31 rfl (lv_at hl 1 rfl) ?_
  refine lv_iconst (v := nI 1) hx hb dX6_isField_32 zki_1 ?_
  refine z_cle (tgt := 40) hx hb (by omega) (by omega) dX6_isField_33 (by decide) (fun c_33 => ?_) (fun c_33 => ?_)
  · refine lv_iconst (v := nI 0) hx hb dX6_isField_40 zki_0 ?_
    refine lv_istore_n (lv' := [(2, .int (nI 0)), (0, .ref mo), (1, .int (nI j))]) hx hb dX6_isField_41 rfl hl (by decide) rfl (fun ls hl => ?_)
    refine lv_iconst (v := nI 0) hx hb dX6_isField_42 zki_0 ?_
    refine lv_istore_n (lv' := [(3, .int (nI 0)), (2, .int (nI 0)), (0, .ref mo), (1, .int (nI j))]) hx hb dX6_isField_43 rfl hl (by decide) rfl (fun ls hl => ?_)
    exact cut_44 ((j - 0) + 1) 0 false (by omega) (by first | exact ⟨fun _ => ⟨by omega, fun x h => absurd h (Nat.not_lt_zero x)⟩, fun _ => rfl⟩ | exact ⟨fun h => absurd h (by decide), fun h => absurd h.1 (by omega)⟩) (Nat.lt_succ_self _) H locs hP hD hS ls (lv_sub hl [2, 3, 1, 0] rfl)
  · refine lv_iconst (v := nI 1) hx hb dX6_isField_36 zki_1 ?_
    refine lv_goto (tgt := 41) hx hb dX6_isField_37 (by decide) ?_
    refine lv_istore_n (lv' := [(2, .int (nI 1)), (0, .ref mo), (1, .int (nI j))]) hx hb dX6_isField_41 rfl hl (by decide) rfl (fun ls hl => ?_)
    refine lv_iconst (v := nI 0) hx hb dX6_isField_42 zki_0 ?_
    refine lv_istore_n (lv' := [(3, .int (nI 0)), (2, .int (nI 1)), (0, .ref mo), (1, .int (nI j))]) hx hb dX6_isField_43 rfl hl (by decide) rfl (fun ls hl => ?_)
    exact cut_44 ((j - 0) + 1) 0 true (by omega) (by first | exact ⟨fun _ => ⟨by omega, fun x h => absurd h (Nat.not_lt_zero x)⟩, fun _ => rfl⟩ | exact ⟨fun h => absurd h (by decide), fun h => absurd h.1 (by omega)⟩) (Nat.lt_succ_self _) H locs hP hD hS ls (lv_sub hl [2, 3, 1, 0] rfl)
abbrev rm_c_X6_isField_no : Room := { frames := 1, cells := 0, slots := 0, locals := 22 }
abbrev q_c_X6_isField_no (D : va_G) (sz : Nat) (mo : Nat) (ra : Nat) (ca : Nat) (ha : Nat) (ba : Nat) (wa : Nat) (kp : Nat) (hd : Nat) (th : Nat) (x0 : Int32) : Array Value → State → Outcome → State → Prop := va_Qi (fun r (_ : Unit) => r = (bI false)) (fun (_ : Unit) t => va_P D vwCl [(mo, .inr (8, [.int (nI 1), .ref ra, .ref ca, .ref ha, .int (nI kp), .ref ba, .int (nI hd), .ref wa]))] t.heap ∧ va_K D vwCl [] t ∧ va_D (va_A [(mo, .inr (8, [.int (nI th), .ref ra, .ref ca, .ref ha, .int (nI kp), .ref ba, .int (nI hd), .ref wa]))] sz) [(mo, .inr (8, [.int (nI 1), .ref ra, .ref ca, .ref ha, .int (nI kp), .ref ba, .int (nI hd), .ref wa]))]) (va_A [(mo, .inr (8, [.int (nI th), .ref ra, .ref ca, .ref ha, .int (nI kp), .ref ba, .int (nI hd), .ref wa]))] sz)
set_option maxHeartbeats 4000000 in
set_option maxRecDepth 100000 in
theorem c_X6_isField_no (l : Launch) (D : va_G) (sz : Nat) (mo : Nat) (ra : Nat) (ca : Nat) (ha : Nat) (ba : Nat) (wa : Nat) (kp : Nat) (hd : Nat) (th : Nat) (x0 : Int32) (hno : x0 < nI 1 ∨ nI 16 < x0) : Met l yX6_isField wsX6_isField rm_c_X6_isField_no (va_Pc [.ref mo, .int x0] (fun U => U.heap.size = sz ∧ va_P D vwCl [(mo, .inr (8, [.int (nI th), .ref ra, .ref ca, .ref ha, .int (nI kp), .ref ba, .int (nI hd), .ref wa]))] U.heap ∧ va_K D vwCl [] U ∧ va_D (fun _ => True) [(mo, .inr (8, [.int (nI th), .ref ra, .ref ca, .ref ha, .int (nI kp), .ref ba, .int (nI hd), .ref wa]))])) (q_c_X6_isField_no D sz mo ra ca ha ba wa kp hd th x0) 0 0 (va_A [(mo, .inr (8, [.int (nI th), .ref ra, .ref ca, .ref ha, .int (nI kp), .ref ba, .int (nI hd), .ref wa]))] sz) := by
  refine Met.ofW (cc := cX6_isField) (maxL := 6) (ret := (some .boolean)) (by decide) rfl ?_
  intro p e s m args below meth c s₁ B hml hv
  obtain ⟨hargs, hsz, hP, hK, hD0⟩ := hv
  have hx := B.exec
  have hb := B.bytes
  have hr := B.returns
  have hts := atoms_spec (ws := wsX6_isField) B.pre
  have hown : s.vm.findClass RX6 = some m.cls := findClass_of_methodNamed B.named
  have hlocks := B.notSynchronized
  subst hsz
  have hD := hD0.self (sz := s.heap.size)
  generalize hAe : va_A [(mo, .inr (8, [.int (nI th), .ref ra, .ref ca, .ref ha, .int (nI kp), .ref ba, .int (nI hd), .ref wa]))] s.heap.size = A at hD ⊢
  have hA : ∀ q : Nat, s.heap.size ≤ q → A q := fun q h => by rw [← hAe]; exact Or.inr h
  have hS : va_S A s.heap s.heap [] := va_S.rf
  have hl := lv_entry ([.ref mo, .int x0]) (n := 6) (Nat.le_of_ble_eq_true rfl)
  refine W.eq (g2 := F0 m 0 (lg_sl ([.ref mo, .int x0]) ++ List.replicate (6 - (lg_sl ([.ref mo, .int x0])).length) Slot.unset).toArray []) (by rw [hargs]; exact lg_entry_eq _ _ _) ?_
  generalize (lg_sl ([.ref mo, .int x0]) ++ List.replicate (6 - (lg_sl ([.ref mo, .int x0])).length) Slot.unset).toArray = ls at hl ⊢
  have hl : lv_has ls 6 [(0, .ref mo), (1, .int x0)] := hl
  refine lv_aload_n hx hb dX6_isField_0 rfl (lv_at hl 0 rfl) ?_
  refine lv_iconst (v := nI 0) hx hb dX6_isField_1 zki_0 ?_
  refine va_put (D := D) (ci := 8) (v := .int (nI 0)) (ty := .int) (C := RX6) (T := TX6) (N := 8) hx hb hts nX6_isField_inX6 tyX6 tyX6_ok nmX6 hown hK hP hD hS 0 rfl rfl 0 (by decide) (hts (.fieldLink RX6 26 "GamefieldModel" "thrown" "I") (by decide +kernel)) (fun _ h9 => h9) rfl (by decide +kernel) rfl rfl (Nat.le_of_ble_eq_true rfl) dX6_isField_2 (fun H locs hP hD hS => ?_)
  have hP : va_P D vwCl [(mo, .inr (8, [.int (nI 0), .ref ra, .ref ca, .ref ha, .int (nI kp), .ref ba, .int (nI hd), .ref wa]))] H := hP
  have hD : va_D A [(mo, .inr (8, [.int (nI 0), .ref ra, .ref ca, .ref ha, .int (nI kp), .ref ba, .int (nI hd), .ref wa]))] := hD
  refine lv_aload_n hx hb dX6_isField_5 rfl (lv_at hl 0 rfl) ?_
  refine lv_iload_n hx hb dX6_isField_6 rfl (lv_at hl 1 rfl) ?_
  refine lv_iconst (v := nI 1) hx hb dX6_isField_7 zki_1 ?_
  refine lv_icmp_lt (tgt := 17) hx hb dX6_isField_8 (by decide) (fun c_8 => ?_) (fun c_8 => ?_)
  · refine lv_iconst (v := nI 1) hx hb dX6_isField_17 zki_1 ?_
    refine lv_goto (tgt := 22) hx hb dX6_isField_18 (by decide) ?_
    refine lv_iconst (v := nI 1) hx hb dX6_isField_22 zki_1 ?_
    have hPc := hP.sub (ws' := [(mo, .inr (8, [.int (nI 0), .ref ra, .ref ca, .ref ha, .int (nI kp), .ref ba, .int (nI hd), .ref wa]))]) [0] rfl
    have hDc := hD.sub (ws' := [(mo, .inr (8, [.int (nI 0), .ref ra, .ref ca, .ref ha, .int (nI kp), .ref ba, .int (nI hd), .ref wa]))]) [0] (by decide) rfl
    have hKc := hK.sub (tys' := []) [] rfl
    have hFc := va_free (wc := [(mo, .inr (8, [.int (nI 0), .ref ra, .ref ca, .ref ha, .int (nI kp), .ref ba, .int (nI hd), .ref wa]))]) hD hS hA [0] rfl
    refine va_calli (va_runV (As := [.int (nI 1), .int (nI 1)]) (rest := []) ⟨hx, hb, hml, hown, hts⟩ (c_X6_fails_true l D H.size mo ra ca ha ba wa kp hd 1 (by omega) (by omega)) (cwV 2 hts gX6_isField_X6_fails rfl rfl rfl (by decide +kernel) ⟨Nat.le_of_ble_eq_true rfl, Nat.le_of_ble_eq_true rfl⟩) ⟨(z_fb2), va_recv hK hP (ci := 8) (q0 := 0) rfl rfl, fun U hU hW => ⟨rfl, by rw [hU], by rw [hU]; exact hPc, va_K.moved hW.alike hKc, hDc.weaken (fun _ _ _ _ => trivial)⟩⟩ rfl rfl hl.1 rfl (lv_room (Nat.le_of_ble_eq_true rfl)) dX6_isField_23 ⟨Nat.le_of_ble_eq_true rfl, Nat.le_of_ble_eq_true rfl⟩) hS (fun q _ h => hFc q h) hFc (fun r23 u23 t H locs ht hvm e23 hB hz1 hk1 hS => ?_)
    obtain ⟨hP1, hK1, hD1⟩ := hB
    rw [ht] at hP1
    obtain ⟨hP, hD⟩ := va_join (wr := []) (w1 := [(mo, .inr (8, [.int (nI 1), .ref ra, .ref ca, .ref ha, .int (nI kp), .ref ba, .int (nI hd), .ref wa]))]) hP hD [0] [] rfl rfl (by decide) (by decide) hk1 hFc hP1 hD1
    have hP : va_P D vwCl [(mo, .inr (8, [.int (nI 1), .ref ra, .ref ca, .ref ha, .int (nI kp), .ref ba, .int (nI hd), .ref wa]))] H := hP
    have hD : va_D A [(mo, .inr (8, [.int (nI 1), .ref ra, .ref ca, .ref ha, .int (nI kp), .ref ba, .int (nI hd), .ref wa]))] := hD
    refine W.widen (k := 0) (n := 0) (Nat.le_of_ble_eq_true rfl) (Nat.le_of_ble_eq_true rfl) ?_
    subst e23
    refine z_beq (tgt := 31) hx hb dX6_isField_26 (by decide) (fun c_26 => absurd c_26 (by decide)) (fun c_26 => ?_)
    refine lv_iconst (v := nI 0) hx hb dX6_isField_29 zki_0 ?_
    have hP9 := hP.sub (ws' := [(mo, .inr (8, [.int (nI 1), .ref ra, .ref ca, .ref ha, .int (nI kp), .ref ba, .int (nI hd), .ref wa]))]) [0] rfl
    have hD9 := hD.sub (ws' := [(mo, .inr (8, [.int (nI 1), .ref ra, .ref ca, .ref ha, .int (nI kp), .ref ba, .int (nI hd), .ref wa]))]) [0] (by decide) rfl
    have hK9 := hK.sub (tys' := []) [] rfl
    subst hAe
    refine W.widen (k := 0) (n := 0) (Nat.le_of_ble_eq_true rfl) (Nat.le_of_ble_eq_true rfl) ?_
    refine zt (show nI 0 = bI false from rfl) ?_
    exact W.zret (ty := .boolean) hx hb hr (z_narB _) (fun t ht hW => ⟨⟨_, (), rfl, (rfl), by rw [ht]; exact hP9, va_K.moved hW.alike hK9, hD9⟩, hS.F ht⟩) hS.2.2 dX6_isField_30
  · refine lv_iload_n hx hb dX6_isField_11 rfl (lv_at hl 1 rfl) ?_
    refine lv_bipush (v := nI 16) hx hb dX6_isField_12 zkb_16 ?_
    refine lv_icmp_le (tgt := 21) hx hb dX6_isField_14 (by decide) (fun c_14 => absurd hno (fun h => h.elim c_8 (Int32.not_lt.mpr c_14))) (fun c_14 => ?_)
    refine lv_iconst (v := nI 1) hx hb dX6_isField_17 zki_1 ?_
    refine lv_goto (tgt := 22) hx hb dX6_isField_18 (by decide) ?_
    refine lv_iconst (v := nI 1) hx hb dX6_isField_22 zki_1 ?_
    have hPc := hP.sub (ws' := [(mo, .inr (8, [.int (nI 0), .ref ra, .ref ca, .ref ha, .int (nI kp), .ref ba, .int (nI hd), .ref wa]))]) [0] rfl
    have hDc := hD.sub (ws' := [(mo, .inr (8, [.int (nI 0), .ref ra, .ref ca, .ref ha, .int (nI kp), .ref ba, .int (nI hd), .ref wa]))]) [0] (by decide) rfl
    have hKc := hK.sub (tys' := []) [] rfl
    have hFc := va_free (wc := [(mo, .inr (8, [.int (nI 0), .ref ra, .ref ca, .ref ha, .int (nI kp), .ref ba, .int (nI hd), .ref wa]))]) hD hS hA [0] rfl
    refine va_calli (va_runV (As := [.int (nI 1), .int (nI 1)]) (rest := []) ⟨hx, hb, hml, hown, hts⟩ (c_X6_fails_true l D H.size mo ra ca ha ba wa kp hd 1 (by omega) (by omega)) (cwV 2 hts gX6_isField_X6_fails rfl rfl rfl (by decide +kernel) ⟨Nat.le_of_ble_eq_true rfl, Nat.le_of_ble_eq_true rfl⟩) ⟨(z_fb2), va_recv hK hP (ci := 8) (q0 := 0) rfl rfl, fun U hU hW => ⟨rfl, by rw [hU], by rw [hU]; exact hPc, va_K.moved hW.alike hKc, hDc.weaken (fun _ _ _ _ => trivial)⟩⟩ rfl rfl hl.1 rfl (lv_room (Nat.le_of_ble_eq_true rfl)) dX6_isField_23 ⟨Nat.le_of_ble_eq_true rfl, Nat.le_of_ble_eq_true rfl⟩) hS (fun q _ h => hFc q h) hFc (fun r23 u23 t H locs ht hvm e23 hB hz1 hk1 hS => ?_)
    obtain ⟨hP1, hK1, hD1⟩ := hB
    rw [ht] at hP1
    obtain ⟨hP, hD⟩ := va_join (wr := []) (w1 := [(mo, .inr (8, [.int (nI 1), .ref ra, .ref ca, .ref ha, .int (nI kp), .ref ba, .int (nI hd), .ref wa]))]) hP hD [0] [] rfl rfl (by decide) (by decide) hk1 hFc hP1 hD1
    have hP : va_P D vwCl [(mo, .inr (8, [.int (nI 1), .ref ra, .ref ca, .ref ha, .int (nI kp), .ref ba, .int (nI hd), .ref wa]))] H := hP
    have hD : va_D A [(mo, .inr (8, [.int (nI 1), .ref ra, .ref ca, .ref ha, .int (nI kp), .ref ba, .int (nI hd), .ref wa]))] := hD
    refine W.widen (k := 0) (n := 0) (Nat.le_of_ble_eq_true rfl) (Nat.le_of_ble_eq_true rfl) ?_
    subst e23
    refine z_beq (tgt := 31) hx hb dX6_isField_26 (by decide) (fun c_26 => absurd c_26 (by decide)) (fun c_26 => ?_)
    refine lv_iconst (v := nI 0) hx hb dX6_isField_29 zki_0 ?_
    have hP9 := hP.sub (ws' := [(mo, .inr (8, [.int (nI 1), .ref ra, .ref ca, .ref ha, .int (nI kp), .ref ba, .int (nI hd), .ref wa]))]) [0] rfl
    have hD9 := hD.sub (ws' := [(mo, .inr (8, [.int (nI 1), .ref ra, .ref ca, .ref ha, .int (nI kp), .ref ba, .int (nI hd), .ref wa]))]) [0] (by decide) rfl
    have hK9 := hK.sub (tys' := []) [] rfl
    subst hAe
    refine W.widen (k := 0) (n := 0) (Nat.le_of_ble_eq_true rfl) (Nat.le_of_ble_eq_true rfl) ?_
    refine zt (show nI 0 = bI false from rfl) ?_
    exact W.zret (ty := .boolean) hx hb hr (z_narB _) (fun t ht hW => ⟨⟨_, (), rfl, (rfl), by rw [ht]; exact hP9, va_K.moved hW.alike hK9, hD9⟩, hS.F ht⟩) hS.2.2 dX6_isField_30
abbrev rm_c_X6_plays : Room := { frames := 2, cells := 0, slots := 0, locals := 43 }
abbrev q_c_X6_plays (D : va_G) (sz : Nat) (mo : Nat) (ra : Nat) (ca : Nat) (ha : Nat) (ba : Nat) (wa : Nat) (kp : Nat) (hd : Nat) (th : Nat) : Array Value → State → Outcome → State → Prop := va_Qi (fun r (_ : Unit) => r = (nI (cn (isp hd) 256))) (fun (_ : Unit) t => va_P D vwCl [(mo, .inr (8, [.int (nI 0), .ref ra, .ref ca, .ref ha, .int (nI kp), .ref ba, .int (nI hd), .ref wa]))] t.heap ∧ va_K D vwCl [] t ∧ va_D (va_A [(mo, .inr (8, [.int (nI th), .ref ra, .ref ca, .ref ha, .int (nI kp), .ref ba, .int (nI hd), .ref wa]))] sz) [(mo, .inr (8, [.int (nI 0), .ref ra, .ref ca, .ref ha, .int (nI kp), .ref ba, .int (nI hd), .ref wa]))]) (va_A [(mo, .inr (8, [.int (nI th), .ref ra, .ref ca, .ref ha, .int (nI kp), .ref ba, .int (nI hd), .ref wa]))] sz)
set_option maxHeartbeats 4000000 in
set_option maxRecDepth 100000 in
theorem c_X6_plays (l : Launch) (D : va_G) (sz : Nat) (mo : Nat) (ra : Nat) (ca : Nat) (ha : Nat) (ba : Nat) (wa : Nat) (kp : Nat) (hd : Nat) (th : Nat) (hhd : hd < 65536) : Met l yX6_plays wsX6_plays rm_c_X6_plays (va_Pc [.ref mo] (fun U => U.heap.size = sz ∧ va_P D vwCl [(mo, .inr (8, [.int (nI th), .ref ra, .ref ca, .ref ha, .int (nI kp), .ref ba, .int (nI hd), .ref wa]))] U.heap ∧ va_K D vwCl [] U ∧ va_D (fun _ => True) [(mo, .inr (8, [.int (nI th), .ref ra, .ref ca, .ref ha, .int (nI kp), .ref ba, .int (nI hd), .ref wa]))])) (q_c_X6_plays D sz mo ra ca ha ba wa kp hd th) 0 0 (va_A [(mo, .inr (8, [.int (nI th), .ref ra, .ref ca, .ref ha, .int (nI kp), .ref ba, .int (nI hd), .ref wa]))] sz) := by
  refine Met.ofW (cc := cX6_plays) (maxL := 4) (ret := (some .int)) (by decide) rfl ?_
  intro p e s m args below meth c s₁ B hml hv
  obtain ⟨hargs, hsz, hP, hK, hD0⟩ := hv
  have hx := B.exec
  have hb := B.bytes
  have hr := B.returns
  have hts := atoms_spec (ws := wsX6_plays) B.pre
  have hown : s.vm.findClass RX6 = some m.cls := findClass_of_methodNamed B.named
  have hlocks := B.notSynchronized
  subst hsz
  have hD := hD0.self (sz := s.heap.size)
  generalize hAe : va_A [(mo, .inr (8, [.int (nI th), .ref ra, .ref ca, .ref ha, .int (nI kp), .ref ba, .int (nI hd), .ref wa]))] s.heap.size = A at hD ⊢
  have hA : ∀ q : Nat, s.heap.size ≤ q → A q := fun q h => by rw [← hAe]; exact Or.inr h
  have hS : va_S A s.heap s.heap [] := va_S.rf
  have hl := lv_entry ([.ref mo]) (n := 4) (Nat.le_of_ble_eq_true rfl)
  refine W.eq (g2 := F0 m 0 (lg_sl ([.ref mo]) ++ List.replicate (4 - (lg_sl ([.ref mo])).length) Slot.unset).toArray []) (by rw [hargs]; exact lg_entry_eq _ _ _) ?_
  generalize (lg_sl ([.ref mo]) ++ List.replicate (4 - (lg_sl ([.ref mo])).length) Slot.unset).toArray = ls at hl ⊢
  have hl : lv_has ls 4 [(0, .ref mo)] := hl
  refine lv_aload_n hx hb dX6_plays_0 rfl (lv_at hl 0 rfl) ?_
  refine lv_iconst (v := nI 0) hx hb dX6_plays_1 zki_0 ?_
  refine va_put (D := D) (ci := 8) (v := .int (nI 0)) (ty := .int) (C := RX6) (T := TX6) (N := 8) hx hb hts nX6_plays_inX6 tyX6 tyX6_ok nmX6 hown hK hP hD hS 0 rfl rfl 0 (by decide) (hts (.fieldLink RX6 26 "GamefieldModel" "thrown" "I") (by decide +kernel)) (fun _ h9 => h9) rfl (by decide +kernel) rfl rfl (Nat.le_of_ble_eq_true rfl) dX6_plays_2 (fun H locs hP hD hS => ?_)
  have hP : va_P D vwCl [(mo, .inr (8, [.int (nI 0), .ref ra, .ref ca, .ref ha, .int (nI kp), .ref ba, .int (nI hd), .ref wa]))] H := hP
  have hD : va_D A [(mo, .inr (8, [.int (nI 0), .ref ra, .ref ca, .ref ha, .int (nI kp), .ref ba, .int (nI hd), .ref wa]))] := hD
  refine lv_iconst (v := nI 0) hx hb dX6_plays_5 zki_0 ?_
  refine lv_istore_n (lv' := [(1, .int (nI 0)), (0, .ref mo)]) hx hb dX6_plays_6 rfl hl (by decide) rfl (fun ls hl => ?_)
  refine lv_iconst (v := nI 1) hx hb dX6_plays_7 zki_1 ?_
  refine lv_istore_n (lv' := [(2, .int (nI 1)), (1, .int (nI 0)), (0, .ref mo)]) hx hb dX6_plays_8 rfl hl (by decide) rfl (fun ls hl => ?_)
  have cut_9 : ∀ (nn9 : Nat) (x : Nat) (hx1 : 1 ≤ x) (hx4 : x ≤ 4) (hn9 : 4 - x < nn9) (H : Heap) (locs : List Loc) (hP : va_P D vwCl [(mo, .inr (8, [.int (nI 0), .ref ra, .ref ca, .ref ha, .int (nI kp), .ref ba, .int (nI hd), .ref wa]))] H) (hD : va_D A [(mo, .inr (8, [.int (nI 0), .ref ra, .ref ca, .ref ha, .int (nI kp), .ref ba, .int (nI hd), .ref wa]))]) (hS : va_S A s.heap H locs) (ls : Array Slot) (hl : lv_has ls 4 [(0, .ref mo), (1, .int (nI (plk hd (4 * x)))), (2, .int (nI x))]), W p l e (headSpec wsX6_plays rm_c_X6_plays).room s m args below meth c H locs 0 0 (MQ below (q_c_X6_plays D s.heap.size mo ra ca ha ba wa kp hd th) args s 0 0 A) (F0 m 9 ls []) := by
    intro nn9
    induction nn9 with
    | zero => intro x hx1 hx4 hn9; exact absurd hn9 (Nat.not_lt_zero _)
    | succ nn9 ih_9 =>
      intro x hx1 hx4 hn9 H locs hP hD hS ls hl
      refine lv_iload_n hx hb dX6_plays_9 rfl (lv_at hl 2 rfl) ?_
      refine lv_iconst (v := nI 4) hx hb dX6_plays_10 zki_4 ?_
      refine z_cge (tgt := 55) hx hb (by omega) (by omega) dX6_plays_11 (by decide) (fun c_11 => ?_) (fun c_11 => ?_)
      · refine lv_iload_n hx hb dX6_plays_55 rfl (lv_at hl 1 rfl) ?_
        have hP9 := hP.sub (ws' := [(mo, .inr (8, [.int (nI 0), .ref ra, .ref ca, .ref ha, .int (nI kp), .ref ba, .int (nI hd), .ref wa]))]) [0] rfl
        have hD9 := hD.sub (ws' := [(mo, .inr (8, [.int (nI 0), .ref ra, .ref ca, .ref ha, .int (nI kp), .ref ba, .int (nI hd), .ref wa]))]) [0] (by decide) rfl
        have hK9 := hK.sub (tys' := []) [] rfl
        subst hAe
        refine W.widen (k := 0) (n := 0) (Nat.le_of_ble_eq_true rfl) (Nat.le_of_ble_eq_true rfl) ?_
        exact W.iret hx hb hr (fun t ht hW => ⟨⟨_, (), rfl, (by rw [show x = 4 by omega, ← plk_cn hd 16 (by decide)]), by rw [ht]; exact hP9, va_K.moved hW.alike hK9, hD9⟩, hS.F ht⟩) hS.2.2 dX6_plays_56
      · refine lv_iconst (v := nI 1) hx hb dX6_plays_14 zki_1 ?_
        refine lv_istore_n (lv' := [(3, .int (nI 1)), (0, .ref mo), (1, .int (nI (plk hd (4 * x)))), (2, .int (nI x))]) hx hb dX6_plays_15 rfl hl (by decide) rfl (fun ls hl => ?_)
        have cut_16 : ∀ (nn9 : Nat) (y : Nat) (hy1 : 1 ≤ y) (hy4 : y ≤ 4) (hn9 : 4 - y < nn9) (H : Heap) (locs : List Loc) (hP : va_P D vwCl [(mo, .inr (8, [.int (nI 0), .ref ra, .ref ca, .ref ha, .int (nI kp), .ref ba, .int (nI hd), .ref wa]))] H) (hD : va_D A [(mo, .inr (8, [.int (nI 0), .ref ra, .ref ca, .ref ha, .int (nI kp), .ref ba, .int (nI hd), .ref wa]))]) (hS : va_S A s.heap H locs) (ls : Array Slot) (hl : lv_has ls 4 [(0, .ref mo), (1, .int (nI (plk hd (4 * x + y)))), (2, .int (nI x)), (3, .int (nI y))]), W p l e (headSpec wsX6_plays rm_c_X6_plays).room s m args below meth c H locs 0 0 (MQ below (q_c_X6_plays D s.heap.size mo ra ca ha ba wa kp hd th) args s 0 0 A) (F0 m 16 ls []) := by
          intro nn9
          induction nn9 with
          | zero => intro y hy1 hy4 hn9; exact absurd hn9 (Nat.not_lt_zero _)
          | succ nn9 ih_16 =>
            intro y hy1 hy4 hn9 H locs hP hD hS ls hl
            refine lv_iload_n hx hb dX6_plays_16 rfl (lv_at hl 3 rfl) ?_
            refine lv_iconst (v := nI 4) hx hb dX6_plays_17 zki_4 ?_
            refine z_cge (tgt := 49) hx hb (by omega) (by omega) dX6_plays_18 (by decide) (fun c_18 => ?_) (fun c_18 => ?_)
            · refine lv_iinc (v := (nI (x + 1))) (lv' := [(2, .int (nI (x + 1))), (0, .ref mo), (1, .int (nI (plk hd (4 * x + y)))), (3, .int (nI y))]) hx hb dX6_plays_49 hl (k := 2) rfl (z_inc x 1) (by decide) rfl (fun ls hl => ?_)
              refine lv_goto (tgt := 9) hx hb dX6_plays_52 (by decide) ?_
              have hl : lv_has ls 4 [(2, .int (nI (x + 1))), (0, .ref mo), (1, .int (nI (plk hd (4 * (x + 1))))), (3, .int (nI y))] := Eq.mp (congrArg (fun z9 => lv_has ls 4 [(2, .int (nI (x + 1))), (0, .ref mo), (1, .int z9), (3, .int (nI y))]) (congrArg nI (show plk hd (4 * x + y) = plk hd (4 * (x + 1)) from by rw [show 4 * (x + 1) = 4 * x + y by omega]))) hl
              exact ih_9 (x + 1) (by omega) (by omega) (by omega) H locs hP hD hS ls (lv_sub hl [1, 2, 0] rfl)
            · have hpl := plk_le hd (4 * x + y) (by omega)
              refine lv_iload_n hx hb dX6_plays_21 rfl (lv_at hl 1 rfl) ?_
              refine lv_aload_n hx hb dX6_plays_22 rfl (lv_at hl 0 rfl) ?_
              refine va_get (D := D) (ci := 8) (v := .int (nI hd)) (C := RX6) (T := TX6) (N := 8) hx hb hts nX6_plays_inX6 hown hK hP 0 rfl rfl 6 (by decide) (hts (.fieldLink RX6 111 "GamefieldModel" "board" "I") (by decide +kernel)) (fun _ h9 => h9) rfl dX6_plays_23 ?_
              refine lv_iload_n hx hb dX6_plays_26 rfl (lv_at hl 2 rfl) ?_
              refine lv_iload_n hx hb dX6_plays_27 rfl (lv_at hl 3 rfl) ?_
              refine z_ci (va_runS (As := [.int (nI hd), .int (nI x), .int (nI y)]) (rest := [.int (nI (plk hd (4 * x + y)))]) ⟨hx, hb, hml, hown, hts⟩ (c_X6_isUp l D hd x y (by omega) (by omega) (by omega)) (va_cwS 3 hts gX6_plays_X6_isUp rfl rfl rfl (by decide +kernel) ⟨Nat.le_of_ble_eq_true rfl, Nat.le_of_ble_eq_true rfl⟩) ⟨z_fb0, fun U hU hW => ⟨rfl, trivial⟩⟩ rfl rfl hl.1 rfl (lv_room (Nat.le_of_ble_eq_true rfl)) dX6_plays_28 ⟨Nat.le_of_ble_eq_true rfl, Nat.le_of_ble_eq_true rfl⟩) (fun r28 e28 => ?_)
              subst e28
              refine z_beq (tgt := 40) hx hb dX6_plays_31 (by decide) (fun c_31 => ?_) (fun c_31 => ?_)
              · have e9 : plk hd (4 * x + y) + 0 = plk hd (4 * x + (y + 1)) := by rw [← Nat.add_assoc, plk, c_31, if_neg (by decide)]
                refine lv_iconst (v := nI 0) hx hb dX6_plays_40 zki_0 ?_
                refine z_add hx hb dX6_plays_41 ?_
                refine lv_istore_n (lv' := [(1, .int (nI ((plk hd (4 * x + y)) + 0))), (0, .ref mo), (2, .int (nI x)), (3, .int (nI y))]) hx hb dX6_plays_42 rfl hl (by decide) rfl (fun ls hl => ?_)
                refine lv_iinc (v := (nI (y + 1))) (lv' := [(3, .int (nI (y + 1))), (1, .int (nI ((plk hd (4 * x + y)) + 0))), (0, .ref mo), (2, .int (nI x))]) hx hb dX6_plays_43 hl (k := 3) rfl (z_inc y 1) (by decide) rfl (fun ls hl => ?_)
                refine lv_goto (tgt := 16) hx hb dX6_plays_46 (by decide) ?_
                have hl : lv_has ls 4 [(3, .int (nI (y + 1))), (1, .int (nI (plk hd (4 * x + (y + 1))))), (0, .ref mo), (2, .int (nI x))] := Eq.mp (congrArg (fun z9 => lv_has ls 4 [(3, .int (nI (y + 1))), (1, .int z9), (0, .ref mo), (2, .int (nI x))]) (congrArg nI (show ((plk hd (4 * x + y)) + 0) = plk hd (4 * x + (y + 1)) from by first | exact e9))) hl
                exact ih_16 (y + 1) (by omega) (by omega) (by omega) H locs hP hD hS ls (lv_sub hl [2, 1, 3, 0] rfl)
              · have hxy : x * y ≤ 9 := Nat.mul_le_mul (show x ≤ 3 by omega) (show y ≤ 3 by omega)
                have e9 : plk hd (4 * x + y) + x * y = plk hd (4 * x + (y + 1)) := by rw [← Nat.add_assoc, plk, c_31, if_pos rfl, show (4 * x + y) / 4 = x by omega, show (4 * x + y) % 4 = y by omega]
                refine lv_iload_n hx hb dX6_plays_34 rfl (lv_at hl 2 rfl) ?_
                refine lv_iload_n hx hb dX6_plays_35 rfl (lv_at hl 3 rfl) ?_
                refine z_mul hx hb dX6_plays_36 ?_
                refine lv_goto (tgt := 41) hx hb dX6_plays_37 (by decide) ?_
                refine z_add hx hb dX6_plays_41 ?_
                refine lv_istore_n (lv' := [(1, .int (nI ((plk hd (4 * x + y)) + (x * y)))), (0, .ref mo), (2, .int (nI x)), (3, .int (nI y))]) hx hb dX6_plays_42 rfl hl (by decide) rfl (fun ls hl => ?_)
                refine lv_iinc (v := (nI (y + 1))) (lv' := [(3, .int (nI (y + 1))), (1, .int (nI ((plk hd (4 * x + y)) + (x * y)))), (0, .ref mo), (2, .int (nI x))]) hx hb dX6_plays_43 hl (k := 3) rfl (z_inc y 1) (by decide) rfl (fun ls hl => ?_)
                refine lv_goto (tgt := 16) hx hb dX6_plays_46 (by decide) ?_
                have hl : lv_has ls 4 [(3, .int (nI (y + 1))), (1, .int (nI (plk hd (4 * x + (y + 1))))), (0, .ref mo), (2, .int (nI x))] := Eq.mp (congrArg (fun z9 => lv_has ls 4 [(3, .int (nI (y + 1))), (1, .int z9), (0, .ref mo), (2, .int (nI x))]) (congrArg nI (show ((plk hd (4 * x + y)) + (x * y)) = plk hd (4 * x + (y + 1)) from by first | exact e9))) hl
                exact ih_16 (y + 1) (by omega) (by omega) (by omega) H locs hP hD hS ls (lv_sub hl [2, 1, 3, 0] rfl)
        have hl : lv_has ls 4 [(3, .int (nI 1)), (0, .ref mo), (1, .int (nI (plk hd (4 * x + 1)))), (2, .int (nI x))] := Eq.mp (congrArg (fun z9 => lv_has ls 4 [(3, .int (nI 1)), (0, .ref mo), (1, .int z9), (2, .int (nI x))]) (congrArg nI (show plk hd (4 * x) = plk hd (4 * x + 1) from (plk_0 hd x (by omega)).symm))) hl
        exact cut_16 ((4 - 1) + 1) 1 (by omega) (by omega) (Nat.lt_succ_self _) H locs hP hD hS ls (lv_sub hl [1, 2, 3, 0] rfl)
  have hl : lv_has ls 4 [(2, .int (nI 1)), (1, .int (nI (plk hd (4 * 1)))), (0, .ref mo)] := Eq.mp (congrArg (fun z9 => lv_has ls 4 [(2, .int (nI 1)), (1, .int z9), (0, .ref mo)]) (congrArg nI (show 0 = plk hd (4 * 1) from by rw [show 4 * 1 = 4 from rfl, ← plk_5 hd, ← plk_0 hd 1 (by decide)]))) hl
  exact cut_9 ((4 - 1) + 1) 1 (by omega) (by omega) (Nat.lt_succ_self _) H locs hP hD hS ls (lv_sub hl [2, 1, 0] rfl)
abbrev rm_c_X6_sweep : Room := { frames := 0, cells := 0, slots := 0, locals := 0 }
abbrev q_c_X6_sweep (D : va_G) (sz : Nat) (mo : Nat) (ra : Nat) (ca : Nat) (ha : Nat) (ba : Nat) (wa : Nat) (kp : Nat) (hd : Nat) (th : Nat) : Array Value → State → Outcome → State → Prop := va_Qi (fun r (_ : Unit) => r = (nI (bcf hd))) (fun (_ : Unit) t => va_P D vwCl [(mo, .inr (8, [.int (nI 0), .ref ra, .ref ca, .ref ha, .int (nI kp), .ref ba, .int (nI 0), .ref wa]))] t.heap ∧ va_K D vwCl [] t ∧ va_D (va_A [(mo, .inr (8, [.int (nI th), .ref ra, .ref ca, .ref ha, .int (nI kp), .ref ba, .int (nI hd), .ref wa]))] sz) [(mo, .inr (8, [.int (nI 0), .ref ra, .ref ca, .ref ha, .int (nI kp), .ref ba, .int (nI 0), .ref wa]))]) (va_A [(mo, .inr (8, [.int (nI th), .ref ra, .ref ca, .ref ha, .int (nI kp), .ref ba, .int (nI hd), .ref wa]))] sz)
set_option maxHeartbeats 4000000 in
set_option maxRecDepth 100000 in
theorem c_X6_sweep (l : Launch) (D : va_G) (sz : Nat) (mo : Nat) (ra : Nat) (ca : Nat) (ha : Nat) (ba : Nat) (wa : Nat) (kp : Nat) (hd : Nat) (th : Nat) (hhd : hd < 65536) : Met l yX6_sweep wsX6_sweep rm_c_X6_sweep (va_Pc [.ref mo] (fun U => U.heap.size = sz ∧ va_P D vwCl [(mo, .inr (8, [.int (nI th), .ref ra, .ref ca, .ref ha, .int (nI kp), .ref ba, .int (nI hd), .ref wa]))] U.heap ∧ va_K D vwCl [] U ∧ va_D (fun _ => True) [(mo, .inr (8, [.int (nI th), .ref ra, .ref ca, .ref ha, .int (nI kp), .ref ba, .int (nI hd), .ref wa]))])) (q_c_X6_sweep D sz mo ra ca ha ba wa kp hd th) 0 0 (va_A [(mo, .inr (8, [.int (nI th), .ref ra, .ref ca, .ref ha, .int (nI kp), .ref ba, .int (nI hd), .ref wa]))] sz) := by
  refine Met.ofW (cc := cX6_sweep) (maxL := 3) (ret := (some .int)) (by decide) rfl ?_
  intro p e s m args below meth c s₁ B hml hv
  obtain ⟨hargs, hsz, hP, hK, hD0⟩ := hv
  have hx := B.exec
  have hb := B.bytes
  have hr := B.returns
  have hts := atoms_spec (ws := wsX6_sweep) B.pre
  have hown : s.vm.findClass RX6 = some m.cls := findClass_of_methodNamed B.named
  have hlocks := B.notSynchronized
  subst hsz
  have hD := hD0.self (sz := s.heap.size)
  generalize hAe : va_A [(mo, .inr (8, [.int (nI th), .ref ra, .ref ca, .ref ha, .int (nI kp), .ref ba, .int (nI hd), .ref wa]))] s.heap.size = A at hD ⊢
  have hA : ∀ q : Nat, s.heap.size ≤ q → A q := fun q h => by rw [← hAe]; exact Or.inr h
  have hS : va_S A s.heap s.heap [] := va_S.rf
  have hl := lv_entry ([.ref mo]) (n := 3) (Nat.le_of_ble_eq_true rfl)
  refine W.eq (g2 := F0 m 0 (lg_sl ([.ref mo]) ++ List.replicate (3 - (lg_sl ([.ref mo])).length) Slot.unset).toArray []) (by rw [hargs]; exact lg_entry_eq _ _ _) ?_
  generalize (lg_sl ([.ref mo]) ++ List.replicate (3 - (lg_sl ([.ref mo])).length) Slot.unset).toArray = ls at hl ⊢
  have hl : lv_has ls 3 [(0, .ref mo)] := hl
  refine lv_aload_n hx hb dX6_sweep_0 rfl (lv_at hl 0 rfl) ?_
  refine lv_iconst (v := nI 0) hx hb dX6_sweep_1 zki_0 ?_
  refine va_put (D := D) (ci := 8) (v := .int (nI 0)) (ty := .int) (C := RX6) (T := TX6) (N := 8) hx hb hts nX6_sweep_inX6 tyX6 tyX6_ok nmX6 hown hK hP hD hS 0 rfl rfl 0 (by decide) (hts (.fieldLink RX6 26 "GamefieldModel" "thrown" "I") (by decide +kernel)) (fun _ h9 => h9) rfl (by decide +kernel) rfl rfl (Nat.le_of_ble_eq_true rfl) dX6_sweep_2 (fun H locs hP hD hS => ?_)
  have hP : va_P D vwCl [(mo, .inr (8, [.int (nI 0), .ref ra, .ref ca, .ref ha, .int (nI kp), .ref ba, .int (nI hd), .ref wa]))] H := hP
  have hD : va_D A [(mo, .inr (8, [.int (nI 0), .ref ra, .ref ca, .ref ha, .int (nI kp), .ref ba, .int (nI hd), .ref wa]))] := hD
  refine lv_iconst (v := nI 0) hx hb dX6_sweep_5 zki_0 ?_
  refine lv_istore_n (lv' := [(1, .int (nI 0)), (0, .ref mo)]) hx hb dX6_sweep_6 rfl hl (by decide) rfl (fun ls hl => ?_)
  refine lv_aload_n hx hb dX6_sweep_7 rfl (lv_at hl 1 rfl) ?_
  refine va_get (D := D) (ci := 8) (v := .int (nI hd)) (C := RX6) (T := TX6) (N := 8) hx hb hts nX6_sweep_inX6 hown hK hP 0 rfl rfl 6 (by decide) (hts (.fieldLink RX6 111 "GamefieldModel" "board" "I") (by decide +kernel)) (fun _ h9 => h9) rfl dX6_sweep_8 ?_
  refine lv_istore_n (lv' := [(2, .int (nI hd)), (1, .int (nI 0)), (0, .ref mo)]) hx hb dX6_sweep_11 rfl hl (by decide) rfl (fun ls hl => ?_)
  have cut_12 : ∀ (nn9 : Nat) (r : Nat) (n : Nat) (d : Nat) (hn : n < 2 ^ d) (hn2 : n < 65536) (hr6 : r ≤ 16) (hd5 : d + r ≤ 16) (hinv : r + pcs d n = bcf hd) (hn9 : n < nn9) (H : Heap) (locs : List Loc) (hP : va_P D vwCl [(mo, .inr (8, [.int (nI 0), .ref ra, .ref ca, .ref ha, .int (nI kp), .ref ba, .int (nI hd), .ref wa]))] H) (hD : va_D A [(mo, .inr (8, [.int (nI 0), .ref ra, .ref ca, .ref ha, .int (nI kp), .ref ba, .int (nI hd), .ref wa]))]) (hS : va_S A s.heap H locs) (ls : Array Slot) (hl : lv_has ls 3 [(0, .ref mo), (1, .int (nI r)), (2, .int (nI n))]), W p l e (headSpec wsX6_sweep rm_c_X6_sweep).room s m args below meth c H locs 0 0 (MQ below (q_c_X6_sweep D s.heap.size mo ra ca ha ba wa kp hd th) args s 0 0 A) (F0 m 12 ls []) := by
    intro nn9
    induction nn9 with
    | zero => intro r n d hn hn2 hr6 hd5 hinv hn9; exact absurd hn9 (Nat.not_lt_zero _)
    | succ nn9 ih_12 =>
      intro r n d hn hn2 hr6 hd5 hinv hn9 H locs hP hD hS ls hl
      refine lv_iload_n hx hb dX6_sweep_12 rfl (lv_at hl 2 rfl) ?_
      refine z_fle (tgt := 29) hx hb (by omega) dX6_sweep_13 (by decide) (fun c_13 => ?_) (fun c_13 => ?_)
      · refine lv_aload_n hx hb dX6_sweep_29 rfl (lv_at hl 0 rfl) ?_
        refine lv_iconst (v := nI 0) hx hb dX6_sweep_30 zki_0 ?_
        refine va_put (D := D) (ci := 8) (v := .int (nI 0)) (ty := .int) (C := RX6) (T := TX6) (N := 8) hx hb hts nX6_sweep_inX6 tyX6 tyX6_ok nmX6 hown hK hP hD hS 0 rfl rfl 6 (by decide) (hts (.fieldLink RX6 111 "GamefieldModel" "board" "I") (by decide +kernel)) (fun _ h9 => h9) rfl (by decide +kernel) rfl rfl (Nat.le_of_ble_eq_true rfl) dX6_sweep_31 (fun H locs hP hD hS => ?_)
        have hP : va_P D vwCl [(mo, .inr (8, [.int (nI 0), .ref ra, .ref ca, .ref ha, .int (nI kp), .ref ba, .int (nI 0), .ref wa]))] H := hP
        have hD : va_D A [(mo, .inr (8, [.int (nI 0), .ref ra, .ref ca, .ref ha, .int (nI kp), .ref ba, .int (nI 0), .ref wa]))] := hD
        refine lv_iload_n hx hb dX6_sweep_34 rfl (lv_at hl 1 rfl) ?_
        have hP9 := hP.sub (ws' := [(mo, .inr (8, [.int (nI 0), .ref ra, .ref ca, .ref ha, .int (nI kp), .ref ba, .int (nI 0), .ref wa]))]) [0] rfl
        have hD9 := hD.sub (ws' := [(mo, .inr (8, [.int (nI 0), .ref ra, .ref ca, .ref ha, .int (nI kp), .ref ba, .int (nI 0), .ref wa]))]) [0] (by decide) rfl
        have hK9 := hK.sub (tys' := []) [] rfl
        subst hAe
        refine W.widen (k := 0) (n := 0) (Nat.le_of_ble_eq_true rfl) (Nat.le_of_ble_eq_true rfl) ?_
        exact W.iret hx hb hr (fun t ht hW => ⟨⟨_, (), rfl, (by rw [show n = 0 by omega, pcs_0] at hinv; exact congrArg nI hinv), by rw [ht]; exact hP9, va_K.moved hW.alike hK9, hD9⟩, hS.F ht⟩) hS.2.2 dX6_sweep_35
      · obtain ⟨d2, rfl⟩ : ∃ z, d = z + 1 := by
          cases d with
          | zero => rw [Nat.pow_zero] at hn; omega
          | succ z => exact ⟨z, rfl⟩
        rw [pcs_s] at hinv
        have hn3 : n / 2 < 2 ^ d2 := by rw [Nat.pow_succ] at hn; omega
        refine lv_iload_n hx hb dX6_sweep_16 rfl (lv_at hl 1 rfl) ?_
        refine lv_iload_n hx hb dX6_sweep_17 rfl (lv_at hl 2 rfl) ?_
        refine lv_iconst (v := nI 2) hx hb dX6_sweep_18 zki_2 ?_
        refine z_rem hx hb (by omega) (by omega) (by omega) dX6_sweep_19 ?_
        refine z_add hx hb dX6_sweep_20 ?_
        refine lv_istore_n (lv' := [(1, .int (nI (r + (n % 2)))), (0, .ref mo), (2, .int (nI n))]) hx hb dX6_sweep_21 rfl hl (by decide) rfl (fun ls hl => ?_)
        refine lv_iload_n hx hb dX6_sweep_22 rfl (lv_at hl 2 rfl) ?_
        refine lv_iconst (v := nI 2) hx hb dX6_sweep_23 zki_2 ?_
        refine z_div hx hb (by omega) (by omega) (by omega) dX6_sweep_24 ?_
        refine lv_istore_n (lv' := [(2, .int (nI (n / 2))), (1, .int (nI (r + (n % 2)))), (0, .ref mo)]) hx hb dX6_sweep_25 rfl hl (by decide) rfl (fun ls hl => ?_)
        refine lv_goto (tgt := 12) hx hb dX6_sweep_26 (by decide) ?_
        exact ih_12 (r + (n % 2)) (n / 2) d2 (hn3) (by omega) (by omega) (by omega) (by omega) (by omega) H locs hP hD hS ls (lv_sub hl [2, 1, 0] rfl)
  exact cut_12 (hd + 1) 0 hd 16 (by omega) (by omega) (by omega) (by omega) (by rw [Nat.zero_add]; exact (pcs_bcf hhd).symm) (Nat.lt_succ_self _) H locs hP hD hS ls (lv_sub hl [2, 1, 0] rfl)
abbrev rm_c_X6_share : Room := { frames := 1, cells := 0, slots := 0, locals := 25 }
abbrev q_c_X6_share (D : va_G) (sz : Nat) (mo : Nat) (ra : Nat) (ca : Nat) (ha : Nat) (ba : Nat) (wa : Nat) (kp : Nat) (hd : Nat) (kb : ClassId) (th : Nat) (bf : Nat → Bool) : Array Value → State → Outcome → State → Prop := va_Qf (fun r (_ : Unit) => r = (FP.fdiv (FP.i2f (nI (cn bf 256))) 1132462080)) (fun (_ : Unit) t => va_P D vwCl [(mo, .inr (8, [.int (nI 0), .ref ra, .ref ca, .ref ha, .int (nI kp), .ref ba, .int (nI hd), .ref wa])), (ba, .inl (kb, 256, .inl (aB bf)))] t.heap ∧ va_K D vwCl [(kb, .boolean)] t ∧ va_D (va_A [(mo, .inr (8, [.int (nI th), .ref ra, .ref ca, .ref ha, .int (nI kp), .ref ba, .int (nI hd), .ref wa])), (ba, .inl (kb, 256, .inl (aB bf)))] sz) [(mo, .inr (8, [.int (nI 0), .ref ra, .ref ca, .ref ha, .int (nI kp), .ref ba, .int (nI hd), .ref wa])), (ba, .inl (kb, 256, .inl (aB bf)))]) (va_A [(mo, .inr (8, [.int (nI th), .ref ra, .ref ca, .ref ha, .int (nI kp), .ref ba, .int (nI hd), .ref wa])), (ba, .inl (kb, 256, .inl (aB bf)))] sz)
set_option maxHeartbeats 4000000 in
set_option maxRecDepth 100000 in
theorem c_X6_share (l : Launch) (D : va_G) (sz : Nat) (mo : Nat) (ra : Nat) (ca : Nat) (ha : Nat) (ba : Nat) (wa : Nat) (kp : Nat) (hd : Nat) (kb : ClassId) (th : Nat) (bf : Nat → Bool) : Met l yX6_share wsX6_share rm_c_X6_share (va_Pc [.ref mo] (fun U => U.heap.size = sz ∧ va_P D vwCl [(mo, .inr (8, [.int (nI th), .ref ra, .ref ca, .ref ha, .int (nI kp), .ref ba, .int (nI hd), .ref wa])), (ba, .inl (kb, 256, .inl (aB bf)))] U.heap ∧ va_K D vwCl [(kb, .boolean)] U ∧ va_D (fun _ => True) [(mo, .inr (8, [.int (nI th), .ref ra, .ref ca, .ref ha, .int (nI kp), .ref ba, .int (nI hd), .ref wa])), (ba, .inl (kb, 256, .inl (aB bf)))])) (q_c_X6_share D sz mo ra ca ha ba wa kp hd kb th bf) 0 0 (va_A [(mo, .inr (8, [.int (nI th), .ref ra, .ref ca, .ref ha, .int (nI kp), .ref ba, .int (nI hd), .ref wa])), (ba, .inl (kb, 256, .inl (aB bf)))] sz) := by
  refine Met.ofW (cc := cX6_share) (maxL := 1) (ret := (some .float)) (by decide) rfl ?_
  intro p e s m args below meth c s₁ B hml hv
  obtain ⟨hargs, hsz, hP, hK, hD0⟩ := hv
  have hx := B.exec
  have hb := B.bytes
  have hr := B.returns
  have hts := atoms_spec (ws := wsX6_share) B.pre
  have hown : s.vm.findClass RX6 = some m.cls := findClass_of_methodNamed B.named
  have hlocks := B.notSynchronized
  subst hsz
  have hD := hD0.self (sz := s.heap.size)
  generalize hAe : va_A [(mo, .inr (8, [.int (nI th), .ref ra, .ref ca, .ref ha, .int (nI kp), .ref ba, .int (nI hd), .ref wa])), (ba, .inl (kb, 256, .inl (aB bf)))] s.heap.size = A at hD ⊢
  have hA : ∀ q : Nat, s.heap.size ≤ q → A q := fun q h => by rw [← hAe]; exact Or.inr h
  have hS : va_S A s.heap s.heap [] := va_S.rf
  have hl := lv_entry ([.ref mo]) (n := 1) (Nat.le_of_ble_eq_true rfl)
  refine W.eq (g2 := F0 m 0 (lg_sl ([.ref mo]) ++ List.replicate (1 - (lg_sl ([.ref mo])).length) Slot.unset).toArray []) (by rw [hargs]; exact lg_entry_eq _ _ _) ?_
  generalize (lg_sl ([.ref mo]) ++ List.replicate (1 - (lg_sl ([.ref mo])).length) Slot.unset).toArray = ls at hl ⊢
  have hl : lv_has ls 1 [(0, .ref mo)] := hl
  refine lv_aload_n hx hb dX6_share_0 rfl (lv_at hl 0 rfl) ?_
  have hPc := hP.sub (ws' := [(mo, .inr (8, [.int (nI th), .ref ra, .ref ca, .ref ha, .int (nI kp), .ref ba, .int (nI hd), .ref wa])), (ba, .inl (kb, 256, .inl (aB bf)))]) [0, 1] rfl
  have hDc := hD.sub (ws' := [(mo, .inr (8, [.int (nI th), .ref ra, .ref ca, .ref ha, .int (nI kp), .ref ba, .int (nI hd), .ref wa])), (ba, .inl (kb, 256, .inl (aB bf)))]) [0, 1] (by decide) rfl
  have hKc := hK.sub (tys' := [(kb, .boolean)]) [0] rfl
  have hFc := va_free (wc := [(mo, .inr (8, [.int (nI th), .ref ra, .ref ca, .ref ha, .int (nI kp), .ref ba, .int (nI hd), .ref wa])), (ba, .inl (kb, 256, .inl (aB bf)))]) hD hS hA [0, 1] rfl
  refine va_calli (va_runV (As := []) (rest := []) ⟨hx, hb, hml, hown, hts⟩ (c_X6_size l D s.heap.size mo ra ca ha ba wa kp hd kb th bf ) (cwV 0 hts gX6_share_X6_size rfl rfl rfl (by decide +kernel) ⟨Nat.le_of_ble_eq_true rfl, Nat.le_of_ble_eq_true rfl⟩) ⟨(z_fb2), va_recv hK hP (ci := 8) (q0 := 0) rfl rfl, fun U hU hW => ⟨rfl, by rw [hU], by rw [hU]; exact hPc, va_K.moved hW.alike hKc, hDc.weaken (fun _ _ _ _ => trivial)⟩⟩ rfl rfl hl.1 rfl (lv_room (Nat.le_of_ble_eq_true rfl)) dX6_share_1 ⟨Nat.le_of_ble_eq_true rfl, Nat.le_of_ble_eq_true rfl⟩) hS (fun q _ h => hFc q h) hFc (fun r1 u1 t H locs ht hvm e1 hB hz1 hk1 hS => ?_)
  obtain ⟨hP1, hK1, hD1⟩ := hB
  rw [ht] at hP1
  obtain ⟨hP, hD⟩ := va_join (wr := []) (w1 := [(mo, .inr (8, [.int (nI 0), .ref ra, .ref ca, .ref ha, .int (nI kp), .ref ba, .int (nI hd), .ref wa])), (ba, .inl (kb, 256, .inl (aB bf)))]) hP hD [0, 1] [] rfl rfl (by decide) (by decide) hk1 hFc hP1 hD1
  have hP : va_P D vwCl [(mo, .inr (8, [.int (nI 0), .ref ra, .ref ca, .ref ha, .int (nI kp), .ref ba, .int (nI hd), .ref wa])), (ba, .inl (kb, 256, .inl (aB bf)))] H := hP
  have hD : va_D A [(mo, .inr (8, [.int (nI 0), .ref ra, .ref ca, .ref ha, .int (nI kp), .ref ba, .int (nI hd), .ref wa])), (ba, .inl (kb, 256, .inl (aB bf)))] := hD
  refine W.widen (k := 0) (n := 0) (Nat.le_of_ble_eq_true rfl) (Nat.le_of_ble_eq_true rfl) ?_
  subst e1
  have hcn1 := cn_le bf 256
  refine lv_i2f hx hb dX6_share_4 ?_
  refine lv_ldcf (v := 1132462080) hx hb hown (hts (.constantFloat RX6 117 (1132462080)) (by decide +kernel)) dX6_share_5 ?_
  refine lv_fdiv hx hb dX6_share_7 (ck_share _ (cn_le bf 256)) ?_
  have hP9 := hP.sub (ws' := [(mo, .inr (8, [.int (nI 0), .ref ra, .ref ca, .ref ha, .int (nI kp), .ref ba, .int (nI hd), .ref wa])), (ba, .inl (kb, 256, .inl (aB bf)))]) [0, 1] rfl
  have hD9 := hD.sub (ws' := [(mo, .inr (8, [.int (nI 0), .ref ra, .ref ca, .ref ha, .int (nI kp), .ref ba, .int (nI hd), .ref wa])), (ba, .inl (kb, 256, .inl (aB bf)))]) [0, 1] (by decide) rfl
  have hK9 := hK.sub (tys' := [(kb, .boolean)]) [0] rfl
  subst hAe
  refine W.widen (k := 0) (n := 0) (Nat.le_of_ble_eq_true rfl) (Nat.le_of_ble_eq_true rfl) ?_
  exact W.fret hx hb hr (fun t ht hW => ⟨⟨_, (), rfl, (rfl), by rw [ht]; exact hP9, va_K.moved hW.alike hK9, hD9⟩, hS.F ht⟩) hS.2.2 dX6_share_8
abbrev rm_c_X6_mean : Room := { frames := 0, cells := 0, slots := 0, locals := 0 }
abbrev q_c_X6_mean (D : va_G) (sz : Nat) (mo : Nat) (ra : Nat) (ca : Nat) (ha : Nat) (ba : Nat) (wa : Nat) (kp : Nat) (hd : Nat) (kr : ClassId) (kc : ClassId) (kh : ClassId) (th : Nat) (rf : Nat → Nat) (cf : Nat → Nat) (hf : Nat → Nat) : Array Value → State → Outcome → State → Prop := va_Qd (fun r (_ : Unit) => r = (FP.ddiv (FP.i2d (nI (sm rf 8))) 4620693217682128896)) (fun (_ : Unit) t => va_P D vwCl [(mo, .inr (8, [.int (nI 0), .ref ra, .ref ca, .ref ha, .int (nI kp), .ref ba, .int (nI hd), .ref wa])), (ra, .inl (kr, 8, .inl (aN rf))), (ca, .inl (kc, 8, .inl (aN cf))), (ha, .inl (kh, 8, .inl (aN hf)))] t.heap ∧ va_K D vwCl [(kr, .int), (kc, .int), (kh, .int)] t ∧ va_D (va_A [(mo, .inr (8, [.int (nI th), .ref ra, .ref ca, .ref ha, .int (nI kp), .ref ba, .int (nI hd), .ref wa])), (ra, .inl (kr, 8, .inl (aN rf))), (ca, .inl (kc, 8, .inl (aN cf))), (ha, .inl (kh, 8, .inl (aN hf)))] sz) [(mo, .inr (8, [.int (nI 0), .ref ra, .ref ca, .ref ha, .int (nI kp), .ref ba, .int (nI hd), .ref wa])), (ra, .inl (kr, 8, .inl (aN rf))), (ca, .inl (kc, 8, .inl (aN cf))), (ha, .inl (kh, 8, .inl (aN hf)))]) (va_A [(mo, .inr (8, [.int (nI th), .ref ra, .ref ca, .ref ha, .int (nI kp), .ref ba, .int (nI hd), .ref wa])), (ra, .inl (kr, 8, .inl (aN rf))), (ca, .inl (kc, 8, .inl (aN cf))), (ha, .inl (kh, 8, .inl (aN hf)))] sz)
set_option maxHeartbeats 4000000 in
set_option maxRecDepth 100000 in
theorem c_X6_mean (l : Launch) (D : va_G) (sz : Nat) (mo : Nat) (ra : Nat) (ca : Nat) (ha : Nat) (ba : Nat) (wa : Nat) (kp : Nat) (hd : Nat) (kr : ClassId) (kc : ClassId) (kh : ClassId) (th : Nat) (rf : Nat → Nat) (cf : Nat → Nat) (hf : Nat → Nat) (hrf : ∀ k, k < 8 → rf k < 256) (hkp : kp ≤ 8) : Met l yX6_mean wsX6_mean rm_c_X6_mean (va_Pc [.ref mo] (fun U => U.heap.size = sz ∧ va_P D vwCl [(mo, .inr (8, [.int (nI th), .ref ra, .ref ca, .ref ha, .int (nI kp), .ref ba, .int (nI hd), .ref wa])), (ra, .inl (kr, 8, .inl (aN rf))), (ca, .inl (kc, 8, .inl (aN cf))), (ha, .inl (kh, 8, .inl (aN hf)))] U.heap ∧ va_K D vwCl [(kr, .int), (kc, .int), (kh, .int)] U ∧ va_D (fun _ => True) [(mo, .inr (8, [.int (nI th), .ref ra, .ref ca, .ref ha, .int (nI kp), .ref ba, .int (nI hd), .ref wa])), (ra, .inl (kr, 8, .inl (aN rf))), (ca, .inl (kc, 8, .inl (aN cf))), (ha, .inl (kh, 8, .inl (aN hf)))])) (q_c_X6_mean D sz mo ra ca ha ba wa kp hd kr kc kh th rf cf hf) 0 0 (va_A [(mo, .inr (8, [.int (nI th), .ref ra, .ref ca, .ref ha, .int (nI kp), .ref ba, .int (nI hd), .ref wa])), (ra, .inl (kr, 8, .inl (aN rf))), (ca, .inl (kc, 8, .inl (aN cf))), (ha, .inl (kh, 8, .inl (aN hf)))] sz) := by
  refine Met.ofW (cc := cX6_mean) (maxL := 6) (ret := (some .double)) (by decide) rfl ?_
  intro p e s m args below meth c s₁ B hml hv
  obtain ⟨hargs, hsz, hP, hK, hD0⟩ := hv
  have hx := B.exec
  have hb := B.bytes
  have hr := B.returns
  have hts := atoms_spec (ws := wsX6_mean) B.pre
  have hown : s.vm.findClass RX6 = some m.cls := findClass_of_methodNamed B.named
  have hlocks := B.notSynchronized
  subst hsz
  have hD := hD0.self (sz := s.heap.size)
  generalize hAe : va_A [(mo, .inr (8, [.int (nI th), .ref ra, .ref ca, .ref ha, .int (nI kp), .ref ba, .int (nI hd), .ref wa])), (ra, .inl (kr, 8, .inl (aN rf))), (ca, .inl (kc, 8, .inl (aN cf))), (ha, .inl (kh, 8, .inl (aN hf)))] s.heap.size = A at hD ⊢
  have hA : ∀ q : Nat, s.heap.size ≤ q → A q := fun q h => by rw [← hAe]; exact Or.inr h
  have hS : va_S A s.heap s.heap [] := va_S.rf
  have hl := lv_entry ([.ref mo]) (n := 6) (Nat.le_of_ble_eq_true rfl)
  refine W.eq (g2 := F0 m 0 (lg_sl ([.ref mo]) ++ List.replicate (6 - (lg_sl ([.ref mo])).length) Slot.unset).toArray []) (by rw [hargs]; exact lg_entry_eq _ _ _) ?_
  generalize (lg_sl ([.ref mo]) ++ List.replicate (6 - (lg_sl ([.ref mo])).length) Slot.unset).toArray = ls at hl ⊢
  have hl : lv_has ls 6 [(0, .ref mo)] := hl
  refine lv_aload_n hx hb dX6_mean_0 rfl (lv_at hl 0 rfl) ?_
  refine lv_iconst (v := nI 0) hx hb dX6_mean_1 zki_0 ?_
  refine va_put (D := D) (ci := 8) (v := .int (nI 0)) (ty := .int) (C := RX6) (T := TX6) (N := 8) hx hb hts nX6_mean_inX6 tyX6 tyX6_ok nmX6 hown hK hP hD hS 0 rfl rfl 0 (by decide) (hts (.fieldLink RX6 26 "GamefieldModel" "thrown" "I") (by decide +kernel)) (fun _ h9 => h9) rfl (by decide +kernel) rfl rfl (Nat.le_of_ble_eq_true rfl) dX6_mean_2 (fun H locs hP hD hS => ?_)
  have hP : va_P D vwCl [(mo, .inr (8, [.int (nI 0), .ref ra, .ref ca, .ref ha, .int (nI kp), .ref ba, .int (nI hd), .ref wa])), (ra, .inl (kr, 8, .inl (aN rf))), (ca, .inl (kc, 8, .inl (aN cf))), (ha, .inl (kh, 8, .inl (aN hf)))] H := hP
  have hD : va_D A [(mo, .inr (8, [.int (nI 0), .ref ra, .ref ca, .ref ha, .int (nI kp), .ref ba, .int (nI hd), .ref wa])), (ra, .inl (kr, 8, .inl (aN rf))), (ca, .inl (kc, 8, .inl (aN cf))), (ha, .inl (kh, 8, .inl (aN hf)))] := hD
  refine lv_iconst (v := nI 0) hx hb dX6_mean_5 zki_0 ?_
  refine lv_istore_n (lv' := [(1, .int (nI 0)), (0, .ref mo)]) hx hb dX6_mean_6 rfl hl (by decide) rfl (fun ls hl => ?_)
  refine lv_aload_n hx hb dX6_mean_7 rfl (lv_at hl 1 rfl) ?_
  refine va_get (D := D) (ci := 8) (v := .ref ra) (C := RX6) (T := TX6) (N := 8) hx hb hts nX6_mean_inX6 hown hK hP 0 rfl rfl 1 (by decide) (hts (.fieldLink RX6 9 "GamefieldModel" "registers" "[I") (by decide +kernel)) (fun _ h9 => h9) rfl dX6_mean_8 ?_
  refine lv_astore_n (lv' := [(2, .ref ra), (1, .int (nI 0)), (0, .ref mo)]) hx hb dX6_mean_11 rfl hl (by decide) rfl (fun ls hl => ?_)
  refine lv_aload_n hx hb dX6_mean_12 rfl (lv_at hl 0 rfl) ?_
  refine va_alen (v := nI 8) hx hb hK hP 1 0 rfl rfl rfl dX6_mean_13 ?_
  refine lv_istore_n (lv' := [(3, .int (nI 8)), (2, .ref ra), (1, .int (nI 0)), (0, .ref mo)]) hx hb dX6_mean_14 rfl hl (by decide) rfl (fun ls hl => ?_)
  refine lv_iconst (v := nI 0) hx hb dX6_mean_15 zki_0 ?_
  refine lv_istore (lv' := [(4, .int (nI 0)), (3, .int (nI 8)), (2, .ref ra), (1, .int (nI 0)), (0, .ref mo)]) hx hb dX6_mean_16 hl (by decide) rfl (fun ls hl => ?_)
  have cut_18 : ∀ (nn9 : Nat) (i : Nat) (hi : i ≤ 8) (hn9 : 8 - i < nn9) (H : Heap) (locs : List Loc) (hP : va_P D vwCl [(mo, .inr (8, [.int (nI 0), .ref ra, .ref ca, .ref ha, .int (nI kp), .ref ba, .int (nI hd), .ref wa])), (ra, .inl (kr, 8, .inl (aN rf))), (ca, .inl (kc, 8, .inl (aN cf))), (ha, .inl (kh, 8, .inl (aN hf)))] H) (hD : va_D A [(mo, .inr (8, [.int (nI 0), .ref ra, .ref ca, .ref ha, .int (nI kp), .ref ba, .int (nI hd), .ref wa])), (ra, .inl (kr, 8, .inl (aN rf))), (ca, .inl (kc, 8, .inl (aN cf))), (ha, .inl (kh, 8, .inl (aN hf)))]) (hS : va_S A s.heap H locs) (ls : Array Slot) (hl : lv_has ls 6 [(0, .ref mo), (1, .int (nI (sm rf i))), (2, .ref ra), (3, .int (nI 8)), (4, .int (nI i))]), W p l e (headSpec wsX6_mean rm_c_X6_mean).room s m args below meth c H locs 0 0 (MQ below (q_c_X6_mean D s.heap.size mo ra ca ha ba wa kp hd kr kc kh th rf cf hf) args s 0 0 A) (F0 m 18 ls []) := by
    intro nn9
    induction nn9 with
    | zero => intro i hi hn9; exact absurd hn9 (Nat.not_lt_zero _)
    | succ nn9 ih_18 =>
      intro i hi hn9 H locs hP hD hS ls hl
      refine lv_iload hx hb dX6_mean_18 (lv_at hl 4 rfl) ?_
      refine lv_iload_n hx hb dX6_mean_20 rfl (lv_at hl 3 rfl) ?_
      refine z_cge (tgt := 41) hx hb (by omega) (by omega) dX6_mean_21 (by decide) (fun c_21 => ?_) (fun c_21 => ?_)
      · have hl : lv_has ls 6 [(0, .ref mo), (1, .int (nI (sm rf 8))), (2, .ref ra), (3, .int (nI 8)), (4, .int (nI 8))] := by rw [show i = 8 by omega] at hl; exact hl
        have hsm8 := sm_le (f := rf) 8 hrf
        refine lv_iload_n hx hb dX6_mean_41 rfl (lv_at hl 1 rfl) ?_
        refine lv_i2d hx hb dX6_mean_42 ?_
        refine lv_ldc2d (v := 4620693217682128896) hx hb hown (hts (.constantDouble RX6 118 (4620693217682128896)) (by decide +kernel)) dX6_mean_43 ?_
        refine lv_ddiv hx hb dX6_mean_46 (ck_mean _ (sm_le 8 hrf)) ?_
        have hP9 := hP.sub (ws' := [(mo, .inr (8, [.int (nI 0), .ref ra, .ref ca, .ref ha, .int (nI kp), .ref ba, .int (nI hd), .ref wa])), (ra, .inl (kr, 8, .inl (aN rf))), (ca, .inl (kc, 8, .inl (aN cf))), (ha, .inl (kh, 8, .inl (aN hf)))]) [0, 1, 2, 3] rfl
        have hD9 := hD.sub (ws' := [(mo, .inr (8, [.int (nI 0), .ref ra, .ref ca, .ref ha, .int (nI kp), .ref ba, .int (nI hd), .ref wa])), (ra, .inl (kr, 8, .inl (aN rf))), (ca, .inl (kc, 8, .inl (aN cf))), (ha, .inl (kh, 8, .inl (aN hf)))]) [0, 1, 2, 3] (by decide) rfl
        have hK9 := hK.sub (tys' := [(kr, .int), (kc, .int), (kh, .int)]) [0, 1, 2] rfl
        subst hAe
        refine W.widen (k := 0) (n := 0) (Nat.le_of_ble_eq_true rfl) (Nat.le_of_ble_eq_true rfl) ?_
        exact W.dret hx hb hr (fun t ht hW => ⟨⟨_, (), rfl, (rfl), by rw [ht]; exact hP9, va_K.moved hW.alike hK9, hD9⟩, hS.F ht⟩) hS.2.2 dX6_mean_47
      · have hsm := sm_le (f := rf) i (fun k hk => hrf k (by omega))
        have hri : rf i < 256 := hrf i (by omega)
        refine lv_aload_n hx hb dX6_mean_24 rfl (lv_at hl 2 rfl) ?_
        refine lv_iload hx hb dX6_mean_25 (lv_at hl 4 rfl) ?_
        refine z_iald hx hb hK hP 1 0 rfl rfl (by omega) (by decide) dX6_mean_27 ?_
        refine lv_istore (lv' := [(5, .int (nI (rf i))), (0, .ref mo), (1, .int (nI (sm rf i))), (2, .ref ra), (3, .int (nI 8)), (4, .int (nI i))]) hx hb dX6_mean_28 hl (by decide) rfl (fun ls hl => ?_)
        refine lv_iload_n hx hb dX6_mean_30 rfl (lv_at hl 2 rfl) ?_
        refine lv_iload hx hb dX6_mean_31 (lv_at hl 0 rfl) ?_
        refine z_add hx hb dX6_mean_33 ?_
        refine lv_istore_n (lv' := [(1, .int (nI ((sm rf i) + (rf i)))), (5, .int (nI (rf i))), (0, .ref mo), (2, .ref ra), (3, .int (nI 8)), (4, .int (nI i))]) hx hb dX6_mean_34 rfl hl (by decide) rfl (fun ls hl => ?_)
        refine lv_iinc (v := (nI (i + 1))) (lv' := [(4, .int (nI (i + 1))), (1, .int (nI ((sm rf i) + (rf i)))), (5, .int (nI (rf i))), (0, .ref mo), (2, .ref ra), (3, .int (nI 8))]) hx hb dX6_mean_35 hl (k := 5) rfl (z_inc i 1) (by decide) rfl (fun ls hl => ?_)
        refine lv_goto (tgt := 18) hx hb dX6_mean_38 (by decide) ?_
        have hl : lv_has ls 6 [(4, .int (nI (i + 1))), (1, .int (nI (sm rf (i + 1)))), (5, .int (nI (rf i))), (0, .ref mo), (2, .ref ra), (3, .int (nI 8))] := Eq.mp (congrArg (fun z9 => lv_has ls 6 [(4, .int (nI (i + 1))), (1, .int z9), (5, .int (nI (rf i))), (0, .ref mo), (2, .ref ra), (3, .int (nI 8))]) (congrArg nI (show ((sm rf i) + (rf i)) = sm rf (i + 1) from rfl))) hl
        exact ih_18 (i + 1) (by omega) (by omega) H locs hP hD hS ls (lv_sub hl [3, 1, 4, 5, 0] rfl)
  have hl : lv_has ls 6 [(4, .int (nI 0)), (3, .int (nI 8)), (2, .ref ra), (1, .int (nI (sm rf 0))), (0, .ref mo)] := Eq.mp (congrArg (fun z9 => lv_has ls 6 [(4, .int (nI 0)), (3, .int (nI 8)), (2, .ref ra), (1, .int z9), (0, .ref mo)]) (congrArg nI (show 0 = sm rf 0 from rfl))) hl
  exact cut_18 ((8 - 0) + 1) 0 (by omega) (Nat.lt_succ_self _) H locs hP hD hS ls (lv_sub hl [4, 3, 2, 1, 0] rfl)
