/-! The reference's own numbers: sums by digits, products by quarters, roots and quotients by search. -/
theorem xm_2 (a b : Nat) : (a ^^^ b) % 2 = if a % 2 = b % 2 then 0 else 1 := by
  have h := Nat.xor_mod_two_pow (a := a) (b := b) (n := 1)
  rw [Nat.pow_one] at h
  rw [h]
  have h1 : a % 2 < 2 := Nat.mod_lt _ (by decide)
  have h2 : b % 2 < 2 := Nat.mod_lt _ (by decide)
  generalize a % 2 = a at h1 ⊢
  generalize b % 2 = b at h2 ⊢
  have : (a = 0 ∨ a = 1) ∧ (b = 0 ∨ b = 1) := by omega
  rcases this with ⟨rfl | rfl, rfl | rfl⟩ <;> rfl
theorem xs_s (u v i : Nat) : (u ^^^ v) % 2 ^ (i + 1) = (u ^^^ v) % 2 ^ i + (if u / 2 ^ i % 2 = v / 2 ^ i % 2 then 0 else 2 ^ i) := by
  rw [Nat.mod_pow_succ, Nat.xor_div_two_pow, xm_2]
  split
  · rw [Nat.mul_zero]
  · rw [Nat.mul_one]
theorem xs_8 {u v : Nat} (hu : u < 256) (hv : v < 256) : (u ^^^ v) % 2 ^ 8 = u ^^^ v := Nat.mod_eq_of_lt (zx8 hu hv)
theorem pw2_8 : ∀ i, i ≤ 8 → 1 ≤ 2 ^ i ∧ 2 ^ i ≤ 256 ∧ (2 ^ i < 256 ↔ i < 8) := by decide
theorem xs_lt (u v i : Nat) : (u ^^^ v) % 2 ^ i < 2 ^ i := Nat.mod_lt _ (Nat.two_pow_pos i)
theorem zx2 {a b : Nat} (ha : a < 2) (hb : b < 2) : a ^^^ b < 2 := Nat.xor_lt_two_pow (n := 1) ha hb
theorem zx2' {a b : Nat} (ha : a < 4) (hb : b < 4) : a ^^^ b < 4 := Nat.xor_lt_two_pow (n := 2) ha hb
theorem zq_b {u v F : Nat} (hu : u < 16) (hv : v < 16) (hF : F = zf (zm u v)) : (F = 2 ∨ F = 4) ∧ u / F < 4 ∧ u % F < 4 ∧ v / F < 4 ∧ v % F < 4 ∧ F / 2 < 4 := by
  have h1 : (F = 4 ∧ u < 16 ∧ v < 16) ∨ (F = 2 ∧ u < 4 ∧ v < 4) := by
    rw [hF, zf, zm]
    split <;> split <;> (try split) <;> omega
  rcases h1 with ⟨rfl, _, _⟩ | ⟨rfl, _, _⟩ <;> omega
theorem zp_b {u v F : Nat} (hu : u < 4) (hv : v < 4) (hF : F = zf (zm u v)) : F = 2 ∧ u / F < 2 ∧ u % F < 2 ∧ v / F < 2 ∧ v % F < 2 ∧ F / 2 < 2 := by
  have h1 : F = 2 := by
    rw [hF, zf, zm]
    split <;> split <;> (try split) <;> omega
  subst h1
  omega
theorem zr_b {u v F : Nat} (hu : u < 256) (hv : v < 256) (hF : F = zf (zm u v)) : (F = 2 ∨ F = 4 ∨ F = 16) ∧ u / F < 16 ∧ u % F < 16 ∧ v / F < 16 ∧ v % F < 16 ∧ F / 2 < 16 := by
  have h1 : (F = 16 ∧ u < 256 ∧ v < 256) ∨ (F = 4 ∧ u < 16 ∧ v < 16) ∨ (F = 2 ∧ u < 4 ∧ v < 4) := by
    rw [hF, zf, zm]
    split <;> split <;> (try split) <;> omega
  rcases h1 with ⟨rfl, _, _⟩ | ⟨rfl, _, _⟩ | ⟨rfl, _, _⟩ <;> omega
theorem pl_t {x y : Int32} (h1 : ¬ x < 0) (h2 : ¬ nI 4 ≤ x) (h3 : ¬ y < 0) (h4 : ¬ nI 4 ≤ y) : (inN 4 x && inN 4 y) = true := by rw [inN_t h1 h2, inN_t h3 h4]; rfl
theorem pl_f {x y : Int32} (h : x < 0 ∨ nI 4 ≤ x ∨ y < 0 ∨ nI 4 ≤ y) : (inN 4 x && inN 4 y) = false := by
  rcases h with h | h | h | h
  · rw [inN_f (Or.inl h)]; rfl
  · rw [inN_f (Or.inr h)]; rfl
  · rw [inN_f (Or.inl h), Bool.and_false]
  · rw [inN_f (Or.inr h), Bool.and_false]
theorem zr_m {F a n : Nat} (hF : F = 2 ∨ F = 4 ∨ F = 16) (ha : a < 16) (hn : F = 16 ∨ F = 4 ∧ a < 4 ∨ F = 2 ∧ a < 2 ∧ True) : F * a < 256 := by
  rcases hn with rfl | ⟨rfl, _⟩ | ⟨rfl, _, _⟩ <;> omega
abbrev rm_c_X6_sumOf : Room := { frames := 0, cells := 0, slots := 0, locals := 0 }
abbrev q_c_X6_sumOf (D : va_G) (u : Nat) (v : Nat) : Array Value → State → Outcome → State → Prop := vp_Si (fun r => r = (nI (u ^^^ v)))
set_option maxHeartbeats 4000000 in
set_option maxRecDepth 100000 in
theorem c_X6_sumOf (l : Launch) (D : va_G) (u : Nat) (v : Nat) (hu : u < 256) (hv8 : v < 256) : Met l yX6_sumOf wsX6_sumOf rm_c_X6_sumOf (va_Pc [.int (nI u), .int (nI v)] (fun _ => True)) (q_c_X6_sumOf D u v) 0 0 (fun _ => False) := by
  refine Met.ofW (cc := cX6_sumOf) (maxL := 6) (ret := (some .int)) (by decide) rfl ?_
  intro p e s m args below meth c s₁ B hml hv
  obtain ⟨hargs, -⟩ := hv
  have hx := B.exec
  have hb := B.bytes
  have hr := B.returns
  have hts := atoms_spec (ws := wsX6_sumOf) B.pre
  have hown : s.vm.findClass RX6 = some m.cls := findClass_of_methodNamed B.named
  have hlocks := B.notSynchronized
  have hl := lv_entry ([.int (nI u), .int (nI v)]) (n := 6) (Nat.le_of_ble_eq_true rfl)
  refine W.eq (g2 := F0 m 0 (lg_sl ([.int (nI u), .int (nI v)]) ++ List.replicate (6 - (lg_sl ([.int (nI u), .int (nI v)])).length) Slot.unset).toArray []) (by rw [hargs]; exact lg_entry_eq _ _ _) ?_
  generalize (lg_sl ([.int (nI u), .int (nI v)]) ++ List.replicate (6 - (lg_sl ([.int (nI u), .int (nI v)])).length) Slot.unset).toArray = ls at hl ⊢
  have hl : lv_has ls 6 [(0, .int (nI u)), (1, .int (nI v))] := hl
  refine lv_iconst (v := nI 0) hx hb dX6_sumOf_0 zki_0 ?_
  refine lv_istore_n (lv' := [(2, .int (nI 0)), (0, .int (nI u)), (1, .int (nI v))]) hx hb dX6_sumOf_1 rfl hl (by decide) rfl (fun ls hl => ?_)
  refine lv_iconst (v := nI 1) hx hb dX6_sumOf_2 zki_1 ?_
  refine lv_istore_n (lv' := [(3, .int (nI 1)), (2, .int (nI 0)), (0, .int (nI u)), (1, .int (nI v))]) hx hb dX6_sumOf_3 rfl hl (by decide) rfl (fun ls hl => ?_)
  have cut_4 : ∀ (nn9 : Nat) (i : Nat) (hi : i ≤ 8) (hn9 : 8 - i < nn9) (ls : Array Slot) (hl : lv_has ls 6 [(0, .int (nI u)), (1, .int (nI v)), (2, .int (nI ((u ^^^ v) % 2 ^ i))), (3, .int (nI (2 ^ i)))]), W p l e (headSpec wsX6_sumOf rm_c_X6_sumOf).room s m args below meth c s.heap [] 0 0 (MQ below (q_c_X6_sumOf D u v) args s 0 0 (fun _ => False)) (F0 m 4 ls []) := by
    intro nn9
    induction nn9 with
    | zero => intro i hi hn9; exact absurd hn9 (Nat.not_lt_zero _)
    | succ nn9 ih_4 =>
      intro i hi hn9 ls hl
      refine lv_iload_n hx hb dX6_sumOf_4 rfl (lv_at hl 3 rfl) ?_
      refine lv_sipush (v := nI 256) hx hb dX6_sumOf_5 zks_256 ?_
      have hp8 := pw2_8 i hi
      have hq8 := xs_lt u v i
      refine z_cge (tgt := 65) hx hb (by omega) (by omega) dX6_sumOf_8 (by decide) (fun c_8 => ?_) (fun c_8 => ?_)
      · refine lv_iload_n hx hb dX6_sumOf_65 rfl (lv_at hl 2 rfl) ?_
        exact W.iret hx hb hr (fun t ht _ => ⟨_, rfl, (by rw [show i = 8 by omega, xs_8 hu hv8]), ht⟩) (fun _ h => nomatch h) dX6_sumOf_66
      · have hi8 : i < 8 := hp8.2.2.mp (by omega)
        have hd1 := Nat.div_le_self u (2 ^ i)
        have hd2 := Nat.div_le_self v (2 ^ i)
        refine lv_iload_n hx hb dX6_sumOf_11 rfl (lv_at hl 0 rfl) ?_
        have cut_41 : ∀  (ls : Array Slot) (hl : lv_has ls 6 [(0, .int (nI u)), (1, .int (nI v)), (2, .int (nI ((u ^^^ v) % 2 ^ i))), (3, .int (nI (2 ^ i))), (4, .int (nI (u / 2 ^ i % 2)))]), W p l e (headSpec wsX6_sumOf rm_c_X6_sumOf).room s m args below meth c s.heap [] 0 0 (MQ below (q_c_X6_sumOf D u v) args s 0 0 (fun _ => False)) (F0 m 41 ls [.int (nI (v / 2 ^ i % 2))]) := by
          intro   ls hl
          refine lv_istore (lv' := [(5, .int (nI (v / 2 ^ i % 2))), (0, .int (nI u)), (1, .int (nI v)), (2, .int (nI ((u ^^^ v) % 2 ^ i))), (3, .int (nI (2 ^ i))), (4, .int (nI (u / 2 ^ i % 2)))]) hx hb dX6_sumOf_41 hl (by decide) rfl (fun ls hl => ?_)
          refine lv_iload_n hx hb dX6_sumOf_43 rfl (lv_at hl 3 rfl) ?_
          refine lv_iload hx hb dX6_sumOf_44 (lv_at hl 5 rfl) ?_
          refine lv_iload hx hb dX6_sumOf_46 (lv_at hl 0 rfl) ?_
          refine z_ceq (tgt := 55) hx hb (by omega) (by omega) dX6_sumOf_48 (by decide) (fun c_48 => ?_) (fun c_48 => ?_)
          · refine lv_iconst (v := nI 0) hx hb dX6_sumOf_55 zki_0 ?_
            refine z_add hx hb dX6_sumOf_56 ?_
            refine lv_istore_n (lv' := [(2, .int (nI (((u ^^^ v) % 2 ^ i) + 0))), (5, .int (nI (v / 2 ^ i % 2))), (0, .int (nI u)), (1, .int (nI v)), (3, .int (nI (2 ^ i))), (4, .int (nI (u / 2 ^ i % 2)))]) hx hb dX6_sumOf_57 rfl hl (by decide) rfl (fun ls hl => ?_)
            refine lv_iload_n hx hb dX6_sumOf_58 rfl (lv_at hl 4 rfl) ?_
            refine lv_iconst (v := nI 2) hx hb dX6_sumOf_59 zki_2 ?_
            refine z_mul hx hb dX6_sumOf_60 ?_
            refine lv_istore_n (lv' := [(3, .int (nI ((2 ^ i) * 2))), (2, .int (nI (((u ^^^ v) % 2 ^ i) + 0))), (5, .int (nI (v / 2 ^ i % 2))), (0, .int (nI u)), (1, .int (nI v)), (4, .int (nI (u / 2 ^ i % 2)))]) hx hb dX6_sumOf_61 rfl hl (by decide) rfl (fun ls hl => ?_)
            refine lv_goto (tgt := 4) hx hb dX6_sumOf_62 (by decide) ?_
            have hl : lv_has ls 6 [(3, .int (nI ((2 ^ i) * 2))), (2, .int (nI ((u ^^^ v) % 2 ^ (i + 1)))), (5, .int (nI (v / 2 ^ i % 2))), (0, .int (nI u)), (1, .int (nI v)), (4, .int (nI (u / 2 ^ i % 2)))] := Eq.mp (congrArg (fun z9 => lv_has ls 6 [(3, .int (nI ((2 ^ i) * 2))), (2, .int z9), (5, .int (nI (v / 2 ^ i % 2))), (0, .int (nI u)), (1, .int (nI v)), (4, .int (nI (u / 2 ^ i % 2)))]) (congrArg nI (show (((u ^^^ v) % 2 ^ i) + 0) = (u ^^^ v) % 2 ^ (i + 1) from by rw [xs_s]; first | rw [if_pos c_48] | rw [if_neg c_48]))) hl
            have hl : lv_has ls 6 [(3, .int (nI (2 ^ (i + 1)))), (2, .int (nI ((u ^^^ v) % 2 ^ (i + 1)))), (5, .int (nI (v / 2 ^ i % 2))), (0, .int (nI u)), (1, .int (nI v)), (4, .int (nI (u / 2 ^ i % 2)))] := Eq.mp (congrArg (fun z9 => lv_has ls 6 [(3, .int z9), (2, .int (nI ((u ^^^ v) % 2 ^ (i + 1)))), (5, .int (nI (v / 2 ^ i % 2))), (0, .int (nI u)), (1, .int (nI v)), (4, .int (nI (u / 2 ^ i % 2)))]) (congrArg nI (show ((2 ^ i) * 2) = 2 ^ (i + 1) from by rw [Nat.pow_succ]))) hl
            exact ih_4 (i + 1) (by omega) (by omega) ls (lv_sub hl [3, 4, 1, 0] rfl)
          · refine lv_iload_n hx hb dX6_sumOf_51 rfl (lv_at hl 4 rfl) ?_
            refine lv_goto (tgt := 56) hx hb dX6_sumOf_52 (by decide) ?_
            refine z_add hx hb dX6_sumOf_56 ?_
            refine lv_istore_n (lv' := [(2, .int (nI (((u ^^^ v) % 2 ^ i) + (2 ^ i)))), (5, .int (nI (v / 2 ^ i % 2))), (0, .int (nI u)), (1, .int (nI v)), (3, .int (nI (2 ^ i))), (4, .int (nI (u / 2 ^ i % 2)))]) hx hb dX6_sumOf_57 rfl hl (by decide) rfl (fun ls hl => ?_)
            refine lv_iload_n hx hb dX6_sumOf_58 rfl (lv_at hl 4 rfl) ?_
            refine lv_iconst (v := nI 2) hx hb dX6_sumOf_59 zki_2 ?_
            refine z_mul hx hb dX6_sumOf_60 ?_
            refine lv_istore_n (lv' := [(3, .int (nI ((2 ^ i) * 2))), (2, .int (nI (((u ^^^ v) % 2 ^ i) + (2 ^ i)))), (5, .int (nI (v / 2 ^ i % 2))), (0, .int (nI u)), (1, .int (nI v)), (4, .int (nI (u / 2 ^ i % 2)))]) hx hb dX6_sumOf_61 rfl hl (by decide) rfl (fun ls hl => ?_)
            refine lv_goto (tgt := 4) hx hb dX6_sumOf_62 (by decide) ?_
            have hl : lv_has ls 6 [(3, .int (nI ((2 ^ i) * 2))), (2, .int (nI ((u ^^^ v) % 2 ^ (i + 1)))), (5, .int (nI (v / 2 ^ i % 2))), (0, .int (nI u)), (1, .int (nI v)), (4, .int (nI (u / 2 ^ i % 2)))] := Eq.mp (congrArg (fun z9 => lv_has ls 6 [(3, .int (nI ((2 ^ i) * 2))), (2, .int z9), (5, .int (nI (v / 2 ^ i % 2))), (0, .int (nI u)), (1, .int (nI v)), (4, .int (nI (u / 2 ^ i % 2)))]) (congrArg nI (show (((u ^^^ v) % 2 ^ i) + (2 ^ i)) = (u ^^^ v) % 2 ^ (i + 1) from by rw [xs_s]; first | rw [if_pos c_48] | rw [if_neg c_48]))) hl
            have hl : lv_has ls 6 [(3, .int (nI (2 ^ (i + 1)))), (2, .int (nI ((u ^^^ v) % 2 ^ (i + 1)))), (5, .int (nI (v / 2 ^ i % 2))), (0, .int (nI u)), (1, .int (nI v)), (4, .int (nI (u / 2 ^ i % 2)))] := Eq.mp (congrArg (fun z9 => lv_has ls 6 [(3, .int z9), (2, .int (nI ((u ^^^ v) % 2 ^ (i + 1)))), (5, .int (nI (v / 2 ^ i % 2))), (0, .int (nI u)), (1, .int (nI v)), (4, .int (nI (u / 2 ^ i % 2)))]) (congrArg nI (show ((2 ^ i) * 2) = 2 ^ (i + 1) from by rw [Nat.pow_succ]))) hl
            exact ih_4 (i + 1) (by omega) (by omega) ls (lv_sub hl [3, 4, 1, 0] rfl)
        have cut_25 : ∀  (ls : Array Slot) (hl : lv_has ls 6 [(0, .int (nI u)), (1, .int (nI v)), (2, .int (nI ((u ^^^ v) % 2 ^ i))), (3, .int (nI (2 ^ i)))]), W p l e (headSpec wsX6_sumOf rm_c_X6_sumOf).room s m args below meth c s.heap [] 0 0 (MQ below (q_c_X6_sumOf D u v) args s 0 0 (fun _ => False)) (F0 m 25 ls [.int (nI (u / 2 ^ i % 2))]) := by
          intro   ls hl
          refine lv_istore (lv' := [(4, .int (nI (u / 2 ^ i % 2))), (0, .int (nI u)), (1, .int (nI v)), (2, .int (nI ((u ^^^ v) % 2 ^ i))), (3, .int (nI (2 ^ i)))]) hx hb dX6_sumOf_25 hl (by decide) rfl (fun ls hl => ?_)
          refine lv_iload_n hx hb dX6_sumOf_27 rfl (lv_at hl 2 rfl) ?_
          refine lv_iload_n hx hb dX6_sumOf_28 rfl (lv_at hl 4 rfl) ?_
          refine z_div hx hb (by omega) (by omega) (by omega) dX6_sumOf_29 ?_
          refine lv_iconst (v := nI 2) hx hb dX6_sumOf_30 zki_2 ?_
          refine z_rem hx hb (by omega) (by omega) (by omega) dX6_sumOf_31 ?_
          refine lv_iconst (v := nI 1) hx hb dX6_sumOf_32 zki_1 ?_
          refine z_cne (tgt := 40) hx hb (by omega) (by omega) dX6_sumOf_33 (by decide) (fun c_33 => ?_) (fun c_33 => ?_)
          · refine lv_iconst (v := nI 0) hx hb dX6_sumOf_40 zki_0 ?_
            refine zt (congrArg nI (show 0 = v / 2 ^ i % 2 from by rw [show v / 2 ^ i % 2 = 0 by omega])) ?_
            exact cut_41   ls (lv_sub hl [1, 2, 3, 4, 0] rfl)
          · refine lv_iconst (v := nI 1) hx hb dX6_sumOf_36 zki_1 ?_
            refine lv_goto (tgt := 41) hx hb dX6_sumOf_37 (by decide) ?_
            refine zt (congrArg nI (show 1 = v / 2 ^ i % 2 from by rw [c_33])) ?_
            exact cut_41   ls (lv_sub hl [1, 2, 3, 4, 0] rfl)
        refine lv_iload_n hx hb dX6_sumOf_12 rfl (lv_at hl 3 rfl) ?_
        refine z_div hx hb (by omega) (by omega) (by omega) dX6_sumOf_13 ?_
        refine lv_iconst (v := nI 2) hx hb dX6_sumOf_14 zki_2 ?_
        refine z_rem hx hb (by omega) (by omega) (by omega) dX6_sumOf_15 ?_
        refine lv_iconst (v := nI 1) hx hb dX6_sumOf_16 zki_1 ?_
        refine z_cne (tgt := 24) hx hb (by omega) (by omega) dX6_sumOf_17 (by decide) (fun c_17 => ?_) (fun c_17 => ?_)
        · refine lv_iconst (v := nI 0) hx hb dX6_sumOf_24 zki_0 ?_
          refine zt (congrArg nI (show 0 = u / 2 ^ i % 2 from by rw [show u / 2 ^ i % 2 = 0 by omega])) ?_
          exact cut_25   ls (lv_sub hl [0, 1, 2, 3] rfl)
        · refine lv_iconst (v := nI 1) hx hb dX6_sumOf_20 zki_1 ?_
          refine lv_goto (tgt := 25) hx hb dX6_sumOf_21 (by decide) ?_
          refine zt (congrArg nI (show 1 = u / 2 ^ i % 2 from by rw [c_17])) ?_
          exact cut_25   ls (lv_sub hl [0, 1, 2, 3] rfl)
  have hl : lv_has ls 6 [(3, .int (nI 1)), (2, .int (nI ((u ^^^ v) % 2 ^ 0))), (0, .int (nI u)), (1, .int (nI v))] := Eq.mp (congrArg (fun z9 => lv_has ls 6 [(3, .int (nI 1)), (2, .int z9), (0, .int (nI u)), (1, .int (nI v))]) (congrArg nI (show 0 = (u ^^^ v) % 2 ^ 0 from by rw [Nat.pow_zero, Nat.mod_one]))) hl
  have hl : lv_has ls 6 [(3, .int (nI (2 ^ 0))), (2, .int (nI ((u ^^^ v) % 2 ^ 0))), (0, .int (nI u)), (1, .int (nI v))] := Eq.mp (congrArg (fun z9 => lv_has ls 6 [(3, .int z9), (2, .int (nI ((u ^^^ v) % 2 ^ 0))), (0, .int (nI u)), (1, .int (nI v))]) (congrArg nI (show 1 = 2 ^ 0 from rfl))) hl
  exact cut_4 ((8 - 0) + 1) 0 (by omega) (Nat.lt_succ_self _) ls (lv_sub hl [2, 3, 1, 0] rfl)
abbrev rm_c_X6_productOf_2 : Room := { frames := 0, cells := 0, slots := 0, locals := 0 }
abbrev q_c_X6_productOf_2 (D : va_G) (u : Nat) (v : Nat) : Array Value → State → Outcome → State → Prop := vp_Si (fun r => r = (nI (np u v)))
set_option maxHeartbeats 4000000 in
set_option maxRecDepth 100000 in
theorem c_X6_productOf_2 (l : Launch) (D : va_G) (u : Nat) (v : Nat) (hu : u < 2) (hv8 : v < 2) : Met l yX6_productOf wsX6_productOf rm_c_X6_productOf_2 (va_Pc [.int (nI u), .int (nI v)] (fun _ => True)) (q_c_X6_productOf_2 D u v) 0 0 (fun _ => False) := by
  refine Met.ofW (cc := cX6_productOf) (maxL := 10) (ret := (some .int)) (by decide) rfl ?_
  intro p e s m args below meth c s₁ B hml hv
  obtain ⟨hargs, -⟩ := hv
  have hx := B.exec
  have hb := B.bytes
  have hr := B.returns
  have hts := atoms_spec (ws := wsX6_productOf) B.pre
  have hown : s.vm.findClass RX6 = some m.cls := findClass_of_methodNamed B.named
  have hlocks := B.notSynchronized
  have hl := lv_entry ([.int (nI u), .int (nI v)]) (n := 10) (Nat.le_of_ble_eq_true rfl)
  refine W.eq (g2 := F0 m 0 (lg_sl ([.int (nI u), .int (nI v)]) ++ List.replicate (10 - (lg_sl ([.int (nI u), .int (nI v)])).length) Slot.unset).toArray []) (by rw [hargs]; exact lg_entry_eq _ _ _) ?_
  generalize (lg_sl ([.int (nI u), .int (nI v)]) ++ List.replicate (10 - (lg_sl ([.int (nI u), .int (nI v)])).length) Slot.unset).toArray = ls at hl ⊢
  have hl : lv_has ls 10 [(0, .int (nI u)), (1, .int (nI v))] := hl
  refine lv_iload_n hx hb dX6_productOf_0 rfl (lv_at hl 0 rfl) ?_
  refine lv_iconst (v := nI 2) hx hb dX6_productOf_1 zki_2 ?_
  refine z_clt (tgt := 10) hx hb (by omega) (by omega) dX6_productOf_2 (by decide) (fun c_2 => ?_) (fun c_2 => absurd c_2 (by omega))
  refine lv_iload_n hx hb dX6_productOf_10 rfl (lv_at hl 0 rfl) ?_
  refine lv_iload_n hx hb dX6_productOf_11 rfl (lv_at hl 1 rfl) ?_
  refine z_mul hx hb dX6_productOf_12 ?_
  exact W.iret hx hb hr (fun t ht _ => ⟨_, rfl, (by rw [np, if_pos (Or.inl hu)]), ht⟩) (fun _ h => nomatch h) dX6_productOf_13
abbrev rm_c_X6_productOf_4 : Room := { frames := 1, cells := 0, slots := 0, locals := 29 }
abbrev q_c_X6_productOf_4 (D : va_G) (u : Nat) (v : Nat) : Array Value → State → Outcome → State → Prop := vp_Si (fun r => r = (nI (np u v)))
set_option maxHeartbeats 4000000 in
set_option maxRecDepth 100000 in
theorem c_X6_productOf_4 (l : Launch) (D : va_G) (u : Nat) (v : Nat) (hu : u < 4) (hv8 : v < 4) : Met l yX6_productOf wsX6_productOf rm_c_X6_productOf_4 (va_Pc [.int (nI u), .int (nI v)] (fun _ => True)) (q_c_X6_productOf_4 D u v) 0 0 (fun _ => False) := by
  refine Met.ofW (cc := cX6_productOf) (maxL := 10) (ret := (some .int)) (by decide) rfl ?_
  intro p e s m args below meth c s₁ B hml hv
  obtain ⟨hargs, -⟩ := hv
  have hx := B.exec
  have hb := B.bytes
  have hr := B.returns
  have hts := atoms_spec (ws := wsX6_productOf) B.pre
  have hown : s.vm.findClass RX6 = some m.cls := findClass_of_methodNamed B.named
  have hlocks := B.notSynchronized
  have hl := lv_entry ([.int (nI u), .int (nI v)]) (n := 10) (Nat.le_of_ble_eq_true rfl)
  refine W.eq (g2 := F0 m 0 (lg_sl ([.int (nI u), .int (nI v)]) ++ List.replicate (10 - (lg_sl ([.int (nI u), .int (nI v)])).length) Slot.unset).toArray []) (by rw [hargs]; exact lg_entry_eq _ _ _) ?_
  generalize (lg_sl ([.int (nI u), .int (nI v)]) ++ List.replicate (10 - (lg_sl ([.int (nI u), .int (nI v)])).length) Slot.unset).toArray = ls at hl ⊢
  have hl : lv_has ls 10 [(0, .int (nI u)), (1, .int (nI v))] := hl
  refine lv_iload_n hx hb dX6_productOf_0 rfl (lv_at hl 0 rfl) ?_
  refine lv_iconst (v := nI 2) hx hb dX6_productOf_1 zki_2 ?_
  refine z_clt (tgt := 10) hx hb (by omega) (by omega) dX6_productOf_2 (by decide) (fun c_2 => ?_) (fun c_2 => ?_)
  · refine lv_iload_n hx hb dX6_productOf_10 rfl (lv_at hl 0 rfl) ?_
    refine lv_iload_n hx hb dX6_productOf_11 rfl (lv_at hl 1 rfl) ?_
    refine z_mul hx hb dX6_productOf_12 ?_
    exact W.iret hx hb hr (fun t ht _ => ⟨_, rfl, (by rw [np, if_pos (by omega)]), ht⟩) (fun _ h => nomatch h) dX6_productOf_13
  · refine lv_iload_n hx hb dX6_productOf_5 rfl (lv_at hl 1 rfl) ?_
    refine lv_iconst (v := nI 2) hx hb dX6_productOf_6 zki_2 ?_
    refine z_cge (tgt := 14) hx hb (by omega) (by omega) dX6_productOf_7 (by decide) (fun c_7 => ?_) (fun c_7 => ?_)
    · have cut_24 : ∀  (mx : Nat) (hm : mx = zm u v) (ls : Array Slot) (hl : lv_has ls 10 [(0, .int (nI u)), (1, .int (nI v))]), W p l e (headSpec wsX6_productOf rm_c_X6_productOf_4).room s m args below meth c s.heap [] 0 0 (MQ below (q_c_X6_productOf_4 D u v) args s 0 0 (fun _ => False)) (F0 m 24 ls [.int (nI mx)]) := by
        intro mx hm ls hl
        have hmx : mx < 4 := by rw [hm, zm]; split <;> omega
        refine lv_istore_n (lv' := [(2, .int (nI mx)), (0, .int (nI u)), (1, .int (nI v))]) hx hb dX6_productOf_24 rfl hl (by decide) rfl (fun ls hl => ?_)
        have cut_46 : ∀  (F : Nat) (hF : F = zf (zm u v)) (ls : Array Slot) (hl : lv_has ls 10 [(0, .int (nI u)), (1, .int (nI v)), (2, .int (nI mx))]), W p l e (headSpec wsX6_productOf rm_c_X6_productOf_4).room s m args below meth c s.heap [] 0 0 (MQ below (q_c_X6_productOf_4 D u v) args s 0 0 (fun _ => False)) (F0 m 46 ls [.int (nI F)]) := by
          intro F hF ls hl
          obtain ⟨hF3, hb1, hb2, hb3, hb4, hb5⟩ := zp_b hu hv8 hF
          have hF0 : 1 < F ∧ F < 17 := by omega
          refine lv_istore_n (lv' := [(3, .int (nI F)), (0, .int (nI u)), (1, .int (nI v)), (2, .int (nI mx))]) hx hb dX6_productOf_46 rfl hl (by decide) rfl (fun ls hl => ?_)
          refine lv_iload_n hx hb dX6_productOf_47 rfl (lv_at hl 1 rfl) ?_
          refine lv_iload_n hx hb dX6_productOf_48 rfl (lv_at hl 0 rfl) ?_
          refine z_div hx hb (by omega) (by omega) (by omega) dX6_productOf_49 ?_
          refine lv_istore (lv' := [(4, .int (nI (u / F))), (3, .int (nI F)), (0, .int (nI u)), (1, .int (nI v)), (2, .int (nI mx))]) hx hb dX6_productOf_50 hl (by decide) rfl (fun ls hl => ?_)
          refine lv_iload_n hx hb dX6_productOf_52 rfl (lv_at hl 2 rfl) ?_
          refine lv_iload_n hx hb dX6_productOf_53 rfl (lv_at hl 1 rfl) ?_
          refine z_rem hx hb (by omega) (by omega) (by omega) dX6_productOf_54 ?_
          refine lv_istore (lv' := [(5, .int (nI (u % F))), (4, .int (nI (u / F))), (3, .int (nI F)), (0, .int (nI u)), (1, .int (nI v)), (2, .int (nI mx))]) hx hb dX6_productOf_55 hl (by decide) rfl (fun ls hl => ?_)
          refine lv_iload_n hx hb dX6_productOf_57 rfl (lv_at hl 4 rfl) ?_
          refine lv_iload_n hx hb dX6_productOf_58 rfl (lv_at hl 2 rfl) ?_
          refine z_div hx hb (by omega) (by omega) (by omega) dX6_productOf_59 ?_
          refine lv_istore (lv' := [(6, .int (nI (v / F))), (5, .int (nI (u % F))), (4, .int (nI (u / F))), (3, .int (nI F)), (0, .int (nI u)), (1, .int (nI v)), (2, .int (nI mx))]) hx hb dX6_productOf_60 hl (by decide) rfl (fun ls hl => ?_)
          refine lv_iload_n hx hb dX6_productOf_62 rfl (lv_at hl 5 rfl) ?_
          refine lv_iload_n hx hb dX6_productOf_63 rfl (lv_at hl 3 rfl) ?_
          refine z_rem hx hb (by omega) (by omega) (by omega) dX6_productOf_64 ?_
          refine lv_istore (lv' := [(7, .int (nI (v % F))), (6, .int (nI (v / F))), (5, .int (nI (u % F))), (4, .int (nI (u / F))), (3, .int (nI F)), (0, .int (nI u)), (1, .int (nI v)), (2, .int (nI mx))]) hx hb dX6_productOf_65 hl (by decide) rfl (fun ls hl => ?_)
          refine lv_iload hx hb dX6_productOf_67 (lv_at hl 3 rfl) ?_
          refine lv_iload hx hb dX6_productOf_69 (lv_at hl 1 rfl) ?_
          refine z_ci (va_runS (As := [.int (nI (u / F)), .int (nI (v / F))]) (rest := []) ⟨hx, hb, hml, hown, hts⟩ (c_X6_productOf_2 l D (u / F) (v / F) (by omega) (by omega)) (va_cwS 2 hts gX6_productOf_X6_productOf rfl rfl rfl (by decide +kernel) ⟨Nat.le_of_ble_eq_true rfl, Nat.le_of_ble_eq_true rfl⟩) ⟨z_fb0, fun U hU hW => ⟨rfl, trivial⟩⟩ rfl rfl hl.1 rfl (lv_room (Nat.le_of_ble_eq_true rfl)) dX6_productOf_71 ⟨Nat.le_of_ble_eq_true rfl, Nat.le_of_ble_eq_true rfl⟩) (fun r71 e71 => ?_)
          subst e71
          have hn71 : np (u / F) (v / F) < 2 := np_2 _ (by omega) _ (by omega)
          refine lv_istore (lv' := [(8, .int (nI (np (u / F) (v / F)))), (7, .int (nI (v % F))), (6, .int (nI (v / F))), (5, .int (nI (u % F))), (4, .int (nI (u / F))), (3, .int (nI F)), (0, .int (nI u)), (1, .int (nI v)), (2, .int (nI mx))]) hx hb dX6_productOf_74 hl (by decide) rfl (fun ls hl => ?_)
          refine lv_iload_n hx hb dX6_productOf_76 rfl (lv_at hl 5 rfl) ?_
          refine lv_iload hx hb dX6_productOf_77 (lv_at hl 0 rfl) ?_
          refine lv_iload hx hb dX6_productOf_79 (lv_at hl 4 rfl) ?_
          refine lv_iload hx hb dX6_productOf_81 (lv_at hl 1 rfl) ?_
          refine z_ci (va_runS (As := [.int (nI (u / F)), .int (nI (v % F))]) (rest := [.int (nI (np (u / F) (v / F))), .int (nI F)]) ⟨hx, hb, hml, hown, hts⟩ (c_X6_productOf_2 l D (u / F) (v % F) (by omega) (by omega)) (va_cwS 2 hts gX6_productOf_X6_productOf rfl rfl rfl (by decide +kernel) ⟨Nat.le_of_ble_eq_true rfl, Nat.le_of_ble_eq_true rfl⟩) ⟨z_fb0, fun U hU hW => ⟨rfl, trivial⟩⟩ rfl rfl hl.1 rfl (lv_room (Nat.le_of_ble_eq_true rfl)) dX6_productOf_83 ⟨Nat.le_of_ble_eq_true rfl, Nat.le_of_ble_eq_true rfl⟩) (fun r83 e83 => ?_)
          subst e83
          have hn83 : np (u / F) (v % F) < 2 := np_2 _ (by omega) _ (by omega)
          refine z_ci (va_runS (As := [.int (nI (np (u / F) (v / F))), .int (nI (np (u / F) (v % F)))]) (rest := [.int (nI F)]) ⟨hx, hb, hml, hown, hts⟩ (c_X6_sumOf l D (np (u / F) (v / F)) (np (u / F) (v % F)) (by omega) (by omega)) (va_cwS 2 hts gX6_productOf_X6_sumOf rfl rfl rfl (by decide +kernel) ⟨Nat.le_of_ble_eq_true rfl, Nat.le_of_ble_eq_true rfl⟩) ⟨z_fb0, fun U hU hW => ⟨rfl, trivial⟩⟩ rfl rfl hl.1 rfl (lv_room (Nat.le_of_ble_eq_true rfl)) dX6_productOf_86 ⟨Nat.le_of_ble_eq_true rfl, Nat.le_of_ble_eq_true rfl⟩) (fun r86 e86 => ?_)
          subst e86
          have hx86 : (np (u / F) (v / F)) ^^^ (np (u / F) (v % F)) < 256 := zx8 (by omega) (by omega)
          refine lv_iload hx hb dX6_productOf_89 (lv_at hl 3 rfl) ?_
          refine lv_iload hx hb dX6_productOf_91 (lv_at hl 2 rfl) ?_
          refine z_ci (va_runS (As := [.int (nI (u % F)), .int (nI (v / F))]) (rest := [.int (nI ((np (u / F) (v / F)) ^^^ (np (u / F) (v % F)))), .int (nI F)]) ⟨hx, hb, hml, hown, hts⟩ (c_X6_productOf_2 l D (u % F) (v / F) (by omega) (by omega)) (va_cwS 2 hts gX6_productOf_X6_productOf rfl rfl rfl (by decide +kernel) ⟨Nat.le_of_ble_eq_true rfl, Nat.le_of_ble_eq_true rfl⟩) ⟨z_fb0, fun U hU hW => ⟨rfl, trivial⟩⟩ rfl rfl hl.1 rfl (lv_room (Nat.le_of_ble_eq_true rfl)) dX6_productOf_93 ⟨Nat.le_of_ble_eq_true rfl, Nat.le_of_ble_eq_true rfl⟩) (fun r93 e93 => ?_)
          subst e93
          have hn93 : np (u % F) (v / F) < 2 := np_2 _ (by omega) _ (by omega)
          refine z_ci (va_runS (As := [.int (nI ((np (u / F) (v / F)) ^^^ (np (u / F) (v % F)))), .int (nI (np (u % F) (v / F)))]) (rest := [.int (nI F)]) ⟨hx, hb, hml, hown, hts⟩ (c_X6_sumOf l D ((np (u / F) (v / F)) ^^^ (np (u / F) (v % F))) (np (u % F) (v / F)) (by omega) (by omega)) (va_cwS 2 hts gX6_productOf_X6_sumOf rfl rfl rfl (by decide +kernel) ⟨Nat.le_of_ble_eq_true rfl, Nat.le_of_ble_eq_true rfl⟩) ⟨z_fb0, fun U hU hW => ⟨rfl, trivial⟩⟩ rfl rfl hl.1 rfl (lv_room (Nat.le_of_ble_eq_true rfl)) dX6_productOf_96 ⟨Nat.le_of_ble_eq_true rfl, Nat.le_of_ble_eq_true rfl⟩) (fun r96 e96 => ?_)
          subst e96
          have hx96 : ((np (u / F) (v / F)) ^^^ (np (u / F) (v % F))) ^^^ (np (u % F) (v / F)) < 256 := zx8 (by omega) (by omega)
          have hx99 : (np (u / F) (v / F) ^^^ np (u / F) (v % F)) ^^^ np (u % F) (v / F) < 2 := zx2 (zx2 (by omega) (by omega)) (by omega)
          have hy99 : F * ((np (u / F) (v / F) ^^^ np (u / F) (v % F)) ^^^ np (u % F) (v / F)) < 256 := by
            generalize (np (u / F) (v / F) ^^^ np (u / F) (v % F)) ^^^ np (u % F) (v / F) = z9 at hx99 ⊢
            rcases hF3 with rfl <;> omega
          refine z_mul hx hb dX6_productOf_99 ?_
          refine lv_istore (lv' := [(9, .int (nI (F * (((np (u / F) (v / F)) ^^^ (np (u / F) (v % F))) ^^^ (np (u % F) (v / F)))))), (8, .int (nI (np (u / F) (v / F)))), (7, .int (nI (v % F))), (6, .int (nI (v / F))), (5, .int (nI (u % F))), (4, .int (nI (u / F))), (3, .int (nI F)), (0, .int (nI u)), (1, .int (nI v)), (2, .int (nI mx))]) hx hb dX6_productOf_100 hl (by decide) rfl (fun ls hl => ?_)
          refine lv_iload hx hb dX6_productOf_102 (lv_at hl 0 rfl) ?_
          refine lv_iload hx hb dX6_productOf_104 (lv_at hl 4 rfl) ?_
          refine lv_iload hx hb dX6_productOf_106 (lv_at hl 2 rfl) ?_
          refine z_ci (va_runS (As := [.int (nI (u % F)), .int (nI (v % F))]) (rest := [.int (nI (F * (((np (u / F) (v / F)) ^^^ (np (u / F) (v % F))) ^^^ (np (u % F) (v / F)))))]) ⟨hx, hb, hml, hown, hts⟩ (c_X6_productOf_2 l D (u % F) (v % F) (by omega) (by omega)) (va_cwS 2 hts gX6_productOf_X6_productOf rfl rfl rfl (by decide +kernel) ⟨Nat.le_of_ble_eq_true rfl, Nat.le_of_ble_eq_true rfl⟩) ⟨z_fb0, fun U hU hW => ⟨rfl, trivial⟩⟩ rfl rfl hl.1 rfl (lv_room (Nat.le_of_ble_eq_true rfl)) dX6_productOf_108 ⟨Nat.le_of_ble_eq_true rfl, Nat.le_of_ble_eq_true rfl⟩) (fun r108 e108 => ?_)
          subst e108
          have hn108 : np (u % F) (v % F) < 2 := np_2 _ (by omega) _ (by omega)
          refine lv_iload hx hb dX6_productOf_111 (lv_at hl 1 rfl) ?_
          refine lv_iload_n hx hb dX6_productOf_113 rfl (lv_at hl 6 rfl) ?_
          refine lv_iconst (v := nI 2) hx hb dX6_productOf_114 zki_2 ?_
          refine z_div hx hb (by omega) (by omega) (by omega) dX6_productOf_115 ?_
          refine z_ci (va_runS (As := [.int (nI (np (u / F) (v / F))), .int (nI (F / 2))]) (rest := [.int (nI (np (u % F) (v % F))), .int (nI (F * (((np (u / F) (v / F)) ^^^ (np (u / F) (v % F))) ^^^ (np (u % F) (v / F)))))]) ⟨hx, hb, hml, hown, hts⟩ (c_X6_productOf_2 l D (np (u / F) (v / F)) (F / 2) (by omega) (by omega)) (va_cwS 2 hts gX6_productOf_X6_productOf rfl rfl rfl (by decide +kernel) ⟨Nat.le_of_ble_eq_true rfl, Nat.le_of_ble_eq_true rfl⟩) ⟨z_fb0, fun U hU hW => ⟨rfl, trivial⟩⟩ rfl rfl hl.1 rfl (lv_room (Nat.le_of_ble_eq_true rfl)) dX6_productOf_116 ⟨Nat.le_of_ble_eq_true rfl, Nat.le_of_ble_eq_true rfl⟩) (fun r116 e116 => ?_)
          subst e116
          have hn116 : np (np (u / F) (v / F)) (F / 2) < 2 := np_2 _ (by omega) _ (by omega)
          refine z_ci (va_runS (As := [.int (nI (np (u % F) (v % F))), .int (nI (np (np (u / F) (v / F)) (F / 2)))]) (rest := [.int (nI (F * (((np (u / F) (v / F)) ^^^ (np (u / F) (v % F))) ^^^ (np (u % F) (v / F)))))]) ⟨hx, hb, hml, hown, hts⟩ (c_X6_sumOf l D (np (u % F) (v % F)) (np (np (u / F) (v / F)) (F / 2)) (by omega) (by omega)) (va_cwS 2 hts gX6_productOf_X6_sumOf rfl rfl rfl (by decide +kernel) ⟨Nat.le_of_ble_eq_true rfl, Nat.le_of_ble_eq_true rfl⟩) ⟨z_fb0, fun U hU hW => ⟨rfl, trivial⟩⟩ rfl rfl hl.1 rfl (lv_room (Nat.le_of_ble_eq_true rfl)) dX6_productOf_119 ⟨Nat.le_of_ble_eq_true rfl, Nat.le_of_ble_eq_true rfl⟩) (fun r119 e119 => ?_)
          subst e119
          have hx119 : (np (u % F) (v % F)) ^^^ (np (np (u / F) (v / F)) (F / 2)) < 256 := zx8 (by omega) (by omega)
          refine z_ci (va_runS (As := [.int (nI (F * (((np (u / F) (v / F)) ^^^ (np (u / F) (v % F))) ^^^ (np (u % F) (v / F))))), .int (nI ((np (u % F) (v % F)) ^^^ (np (np (u / F) (v / F)) (F / 2))))]) (rest := []) ⟨hx, hb, hml, hown, hts⟩ (c_X6_sumOf l D (F * (((np (u / F) (v / F)) ^^^ (np (u / F) (v % F))) ^^^ (np (u % F) (v / F)))) ((np (u % F) (v % F)) ^^^ (np (np (u / F) (v / F)) (F / 2))) (by omega) (by omega)) (va_cwS 2 hts gX6_productOf_X6_sumOf rfl rfl rfl (by decide +kernel) ⟨Nat.le_of_ble_eq_true rfl, Nat.le_of_ble_eq_true rfl⟩) ⟨z_fb0, fun U hU hW => ⟨rfl, trivial⟩⟩ rfl rfl hl.1 rfl (lv_room (Nat.le_of_ble_eq_true rfl)) dX6_productOf_122 ⟨Nat.le_of_ble_eq_true rfl, Nat.le_of_ble_eq_true rfl⟩) (fun r122 e122 => ?_)
          subst e122
          have hx122 : (F * (((np (u / F) (v / F)) ^^^ (np (u / F) (v % F))) ^^^ (np (u % F) (v / F)))) ^^^ ((np (u % F) (v % F)) ^^^ (np (np (u / F) (v / F)) (F / 2))) < 256 := zx8 (by omega) (by omega)
          exact W.iret hx hb hr (fun t ht _ => ⟨_, rfl, (by rw [np_rec (by omega) (by omega) (by omega) hF, Nat.xor_assoc]), ht⟩) (fun _ h => nomatch h) dX6_productOf_125
        refine lv_iload_n hx hb dX6_productOf_25 rfl (lv_at hl 0 rfl) ?_
        refine lv_bipush (v := nI 16) hx hb dX6_productOf_26 zkb_16 ?_
        refine z_clt (tgt := 36) hx hb (by omega) (by omega) dX6_productOf_28 (by decide) (fun c_28 => ?_) (fun c_28 => absurd c_28 (by omega))
        refine lv_iload_n hx hb dX6_productOf_36 rfl (lv_at hl 0 rfl) ?_
        refine lv_iconst (v := nI 4) hx hb dX6_productOf_37 zki_4 ?_
        refine z_clt (tgt := 45) hx hb (by omega) (by omega) dX6_productOf_38 (by decide) (fun c_38 => ?_) (fun c_38 => absurd c_38 (by omega))
        refine lv_iconst (v := nI 2) hx hb dX6_productOf_45 zki_2 ?_
        exact cut_46 2 (by rw [← hm, zf, if_neg (by omega), if_neg (by omega)]) ls (lv_sub hl [1, 2, 0] rfl)
      refine lv_iload_n hx hb dX6_productOf_14 rfl (lv_at hl 0 rfl) ?_
      refine lv_iload_n hx hb dX6_productOf_15 rfl (lv_at hl 1 rfl) ?_
      refine z_cle (tgt := 23) hx hb (by omega) (by omega) dX6_productOf_16 (by decide) (fun c_16 => ?_) (fun c_16 => ?_)
      · refine lv_iload_n hx hb dX6_productOf_23 rfl (lv_at hl 1 rfl) ?_
        exact cut_24 v (by rw [zm, if_neg (by omega)]) ls (lv_sub hl [0, 1] rfl)
      · refine lv_iload_n hx hb dX6_productOf_19 rfl (lv_at hl 0 rfl) ?_
        refine lv_goto (tgt := 24) hx hb dX6_productOf_20 (by decide) ?_
        exact cut_24 u (by rw [zm, if_pos c_16]) ls (lv_sub hl [0, 1] rfl)
    · refine lv_iload_n hx hb dX6_productOf_10 rfl (lv_at hl 0 rfl) ?_
      refine lv_iload_n hx hb dX6_productOf_11 rfl (lv_at hl 1 rfl) ?_
      refine z_mul hx hb dX6_productOf_12 ?_
      exact W.iret hx hb hr (fun t ht _ => ⟨_, rfl, (by rw [np, if_pos (by omega)]), ht⟩) (fun _ h => nomatch h) dX6_productOf_13
abbrev rm_c_X6_productOf_16 : Room := { frames := 2, cells := 0, slots := 0, locals := 58 }
abbrev q_c_X6_productOf_16 (D : va_G) (u : Nat) (v : Nat) : Array Value → State → Outcome → State → Prop := vp_Si (fun r => r = (nI (np u v)))
set_option maxHeartbeats 4000000 in
set_option maxRecDepth 100000 in
theorem c_X6_productOf_16 (l : Launch) (D : va_G) (u : Nat) (v : Nat) (hu : u < 16) (hv8 : v < 16) : Met l yX6_productOf wsX6_productOf rm_c_X6_productOf_16 (va_Pc [.int (nI u), .int (nI v)] (fun _ => True)) (q_c_X6_productOf_16 D u v) 0 0 (fun _ => False) := by
  refine Met.ofW (cc := cX6_productOf) (maxL := 10) (ret := (some .int)) (by decide) rfl ?_
  intro p e s m args below meth c s₁ B hml hv
  obtain ⟨hargs, -⟩ := hv
  have hx := B.exec
  have hb := B.bytes
  have hr := B.returns
  have hts := atoms_spec (ws := wsX6_productOf) B.pre
  have hown : s.vm.findClass RX6 = some m.cls := findClass_of_methodNamed B.named
  have hlocks := B.notSynchronized
  have hl := lv_entry ([.int (nI u), .int (nI v)]) (n := 10) (Nat.le_of_ble_eq_true rfl)
  refine W.eq (g2 := F0 m 0 (lg_sl ([.int (nI u), .int (nI v)]) ++ List.replicate (10 - (lg_sl ([.int (nI u), .int (nI v)])).length) Slot.unset).toArray []) (by rw [hargs]; exact lg_entry_eq _ _ _) ?_
  generalize (lg_sl ([.int (nI u), .int (nI v)]) ++ List.replicate (10 - (lg_sl ([.int (nI u), .int (nI v)])).length) Slot.unset).toArray = ls at hl ⊢
  have hl : lv_has ls 10 [(0, .int (nI u)), (1, .int (nI v))] := hl
  refine lv_iload_n hx hb dX6_productOf_0 rfl (lv_at hl 0 rfl) ?_
  refine lv_iconst (v := nI 2) hx hb dX6_productOf_1 zki_2 ?_
  refine z_clt (tgt := 10) hx hb (by omega) (by omega) dX6_productOf_2 (by decide) (fun c_2 => ?_) (fun c_2 => ?_)
  · refine lv_iload_n hx hb dX6_productOf_10 rfl (lv_at hl 0 rfl) ?_
    refine lv_iload_n hx hb dX6_productOf_11 rfl (lv_at hl 1 rfl) ?_
    refine z_mul hx hb dX6_productOf_12 ?_
    exact W.iret hx hb hr (fun t ht _ => ⟨_, rfl, (by rw [np, if_pos (by omega)]), ht⟩) (fun _ h => nomatch h) dX6_productOf_13
  · refine lv_iload_n hx hb dX6_productOf_5 rfl (lv_at hl 1 rfl) ?_
    refine lv_iconst (v := nI 2) hx hb dX6_productOf_6 zki_2 ?_
    refine z_cge (tgt := 14) hx hb (by omega) (by omega) dX6_productOf_7 (by decide) (fun c_7 => ?_) (fun c_7 => ?_)
    · have cut_24 : ∀  (mx : Nat) (hm : mx = zm u v) (ls : Array Slot) (hl : lv_has ls 10 [(0, .int (nI u)), (1, .int (nI v))]), W p l e (headSpec wsX6_productOf rm_c_X6_productOf_16).room s m args below meth c s.heap [] 0 0 (MQ below (q_c_X6_productOf_16 D u v) args s 0 0 (fun _ => False)) (F0 m 24 ls [.int (nI mx)]) := by
        intro mx hm ls hl
        have hmx : mx < 16 := by rw [hm, zm]; split <;> omega
        refine lv_istore_n (lv' := [(2, .int (nI mx)), (0, .int (nI u)), (1, .int (nI v))]) hx hb dX6_productOf_24 rfl hl (by decide) rfl (fun ls hl => ?_)
        have cut_46 : ∀  (F : Nat) (hF : F = zf (zm u v)) (ls : Array Slot) (hl : lv_has ls 10 [(0, .int (nI u)), (1, .int (nI v)), (2, .int (nI mx))]), W p l e (headSpec wsX6_productOf rm_c_X6_productOf_16).room s m args below meth c s.heap [] 0 0 (MQ below (q_c_X6_productOf_16 D u v) args s 0 0 (fun _ => False)) (F0 m 46 ls [.int (nI F)]) := by
          intro F hF ls hl
          obtain ⟨hF3, hb1, hb2, hb3, hb4, hb5⟩ := zq_b hu hv8 hF
          have hF0 : 1 < F ∧ F < 17 := by omega
          refine lv_istore_n (lv' := [(3, .int (nI F)), (0, .int (nI u)), (1, .int (nI v)), (2, .int (nI mx))]) hx hb dX6_productOf_46 rfl hl (by decide) rfl (fun ls hl => ?_)
          refine lv_iload_n hx hb dX6_productOf_47 rfl (lv_at hl 1 rfl) ?_
          refine lv_iload_n hx hb dX6_productOf_48 rfl (lv_at hl 0 rfl) ?_
          refine z_div hx hb (by omega) (by omega) (by omega) dX6_productOf_49 ?_
          refine lv_istore (lv' := [(4, .int (nI (u / F))), (3, .int (nI F)), (0, .int (nI u)), (1, .int (nI v)), (2, .int (nI mx))]) hx hb dX6_productOf_50 hl (by decide) rfl (fun ls hl => ?_)
          refine lv_iload_n hx hb dX6_productOf_52 rfl (lv_at hl 2 rfl) ?_
          refine lv_iload_n hx hb dX6_productOf_53 rfl (lv_at hl 1 rfl) ?_
          refine z_rem hx hb (by omega) (by omega) (by omega) dX6_productOf_54 ?_
          refine lv_istore (lv' := [(5, .int (nI (u % F))), (4, .int (nI (u / F))), (3, .int (nI F)), (0, .int (nI u)), (1, .int (nI v)), (2, .int (nI mx))]) hx hb dX6_productOf_55 hl (by decide) rfl (fun ls hl => ?_)
          refine lv_iload_n hx hb dX6_productOf_57 rfl (lv_at hl 4 rfl) ?_
          refine lv_iload_n hx hb dX6_productOf_58 rfl (lv_at hl 2 rfl) ?_
          refine z_div hx hb (by omega) (by omega) (by omega) dX6_productOf_59 ?_
          refine lv_istore (lv' := [(6, .int (nI (v / F))), (5, .int (nI (u % F))), (4, .int (nI (u / F))), (3, .int (nI F)), (0, .int (nI u)), (1, .int (nI v)), (2, .int (nI mx))]) hx hb dX6_productOf_60 hl (by decide) rfl (fun ls hl => ?_)
          refine lv_iload_n hx hb dX6_productOf_62 rfl (lv_at hl 5 rfl) ?_
          refine lv_iload_n hx hb dX6_productOf_63 rfl (lv_at hl 3 rfl) ?_
          refine z_rem hx hb (by omega) (by omega) (by omega) dX6_productOf_64 ?_
          refine lv_istore (lv' := [(7, .int (nI (v % F))), (6, .int (nI (v / F))), (5, .int (nI (u % F))), (4, .int (nI (u / F))), (3, .int (nI F)), (0, .int (nI u)), (1, .int (nI v)), (2, .int (nI mx))]) hx hb dX6_productOf_65 hl (by decide) rfl (fun ls hl => ?_)
          refine lv_iload hx hb dX6_productOf_67 (lv_at hl 3 rfl) ?_
          refine lv_iload hx hb dX6_productOf_69 (lv_at hl 1 rfl) ?_
          refine z_ci (va_runS (As := [.int (nI (u / F)), .int (nI (v / F))]) (rest := []) ⟨hx, hb, hml, hown, hts⟩ (c_X6_productOf_4 l D (u / F) (v / F) (by omega) (by omega)) (va_cwS 2 hts gX6_productOf_X6_productOf rfl rfl rfl (by decide +kernel) ⟨Nat.le_of_ble_eq_true rfl, Nat.le_of_ble_eq_true rfl⟩) ⟨z_fb0, fun U hU hW => ⟨rfl, trivial⟩⟩ rfl rfl hl.1 rfl (lv_room (Nat.le_of_ble_eq_true rfl)) dX6_productOf_71 ⟨Nat.le_of_ble_eq_true rfl, Nat.le_of_ble_eq_true rfl⟩) (fun r71 e71 => ?_)
          subst e71
          have hn71 : np (u / F) (v / F) < 4 := np_4 _ (by omega) _ (by omega)
          refine lv_istore (lv' := [(8, .int (nI (np (u / F) (v / F)))), (7, .int (nI (v % F))), (6, .int (nI (v / F))), (5, .int (nI (u % F))), (4, .int (nI (u / F))), (3, .int (nI F)), (0, .int (nI u)), (1, .int (nI v)), (2, .int (nI mx))]) hx hb dX6_productOf_74 hl (by decide) rfl (fun ls hl => ?_)
          refine lv_iload_n hx hb dX6_productOf_76 rfl (lv_at hl 5 rfl) ?_
          refine lv_iload hx hb dX6_productOf_77 (lv_at hl 0 rfl) ?_
          refine lv_iload hx hb dX6_productOf_79 (lv_at hl 4 rfl) ?_
          refine lv_iload hx hb dX6_productOf_81 (lv_at hl 1 rfl) ?_
          refine z_ci (va_runS (As := [.int (nI (u / F)), .int (nI (v % F))]) (rest := [.int (nI (np (u / F) (v / F))), .int (nI F)]) ⟨hx, hb, hml, hown, hts⟩ (c_X6_productOf_4 l D (u / F) (v % F) (by omega) (by omega)) (va_cwS 2 hts gX6_productOf_X6_productOf rfl rfl rfl (by decide +kernel) ⟨Nat.le_of_ble_eq_true rfl, Nat.le_of_ble_eq_true rfl⟩) ⟨z_fb0, fun U hU hW => ⟨rfl, trivial⟩⟩ rfl rfl hl.1 rfl (lv_room (Nat.le_of_ble_eq_true rfl)) dX6_productOf_83 ⟨Nat.le_of_ble_eq_true rfl, Nat.le_of_ble_eq_true rfl⟩) (fun r83 e83 => ?_)
          subst e83
          have hn83 : np (u / F) (v % F) < 4 := np_4 _ (by omega) _ (by omega)
          refine z_ci (va_runS (As := [.int (nI (np (u / F) (v / F))), .int (nI (np (u / F) (v % F)))]) (rest := [.int (nI F)]) ⟨hx, hb, hml, hown, hts⟩ (c_X6_sumOf l D (np (u / F) (v / F)) (np (u / F) (v % F)) (by omega) (by omega)) (va_cwS 2 hts gX6_productOf_X6_sumOf rfl rfl rfl (by decide +kernel) ⟨Nat.le_of_ble_eq_true rfl, Nat.le_of_ble_eq_true rfl⟩) ⟨z_fb0, fun U hU hW => ⟨rfl, trivial⟩⟩ rfl rfl hl.1 rfl (lv_room (Nat.le_of_ble_eq_true rfl)) dX6_productOf_86 ⟨Nat.le_of_ble_eq_true rfl, Nat.le_of_ble_eq_true rfl⟩) (fun r86 e86 => ?_)
          subst e86
          have hx86 : (np (u / F) (v / F)) ^^^ (np (u / F) (v % F)) < 256 := zx8 (by omega) (by omega)
          refine lv_iload hx hb dX6_productOf_89 (lv_at hl 3 rfl) ?_
          refine lv_iload hx hb dX6_productOf_91 (lv_at hl 2 rfl) ?_
          refine z_ci (va_runS (As := [.int (nI (u % F)), .int (nI (v / F))]) (rest := [.int (nI ((np (u / F) (v / F)) ^^^ (np (u / F) (v % F)))), .int (nI F)]) ⟨hx, hb, hml, hown, hts⟩ (c_X6_productOf_4 l D (u % F) (v / F) (by omega) (by omega)) (va_cwS 2 hts gX6_productOf_X6_productOf rfl rfl rfl (by decide +kernel) ⟨Nat.le_of_ble_eq_true rfl, Nat.le_of_ble_eq_true rfl⟩) ⟨z_fb0, fun U hU hW => ⟨rfl, trivial⟩⟩ rfl rfl hl.1 rfl (lv_room (Nat.le_of_ble_eq_true rfl)) dX6_productOf_93 ⟨Nat.le_of_ble_eq_true rfl, Nat.le_of_ble_eq_true rfl⟩) (fun r93 e93 => ?_)
          subst e93
          have hn93 : np (u % F) (v / F) < 4 := np_4 _ (by omega) _ (by omega)
          refine z_ci (va_runS (As := [.int (nI ((np (u / F) (v / F)) ^^^ (np (u / F) (v % F)))), .int (nI (np (u % F) (v / F)))]) (rest := [.int (nI F)]) ⟨hx, hb, hml, hown, hts⟩ (c_X6_sumOf l D ((np (u / F) (v / F)) ^^^ (np (u / F) (v % F))) (np (u % F) (v / F)) (by omega) (by omega)) (va_cwS 2 hts gX6_productOf_X6_sumOf rfl rfl rfl (by decide +kernel) ⟨Nat.le_of_ble_eq_true rfl, Nat.le_of_ble_eq_true rfl⟩) ⟨z_fb0, fun U hU hW => ⟨rfl, trivial⟩⟩ rfl rfl hl.1 rfl (lv_room (Nat.le_of_ble_eq_true rfl)) dX6_productOf_96 ⟨Nat.le_of_ble_eq_true rfl, Nat.le_of_ble_eq_true rfl⟩) (fun r96 e96 => ?_)
          subst e96
          have hx96 : ((np (u / F) (v / F)) ^^^ (np (u / F) (v % F))) ^^^ (np (u % F) (v / F)) < 256 := zx8 (by omega) (by omega)
          have hx99 : (np (u / F) (v / F) ^^^ np (u / F) (v % F)) ^^^ np (u % F) (v / F) < 4 := zx2' (zx2' (by omega) (by omega)) (by omega)
          have hy99 : F * ((np (u / F) (v / F) ^^^ np (u / F) (v % F)) ^^^ np (u % F) (v / F)) < 256 := by
            generalize (np (u / F) (v / F) ^^^ np (u / F) (v % F)) ^^^ np (u % F) (v / F) = z9 at hx99 ⊢
            rcases hF3 with rfl | rfl <;> omega
          refine z_mul hx hb dX6_productOf_99 ?_
          refine lv_istore (lv' := [(9, .int (nI (F * (((np (u / F) (v / F)) ^^^ (np (u / F) (v % F))) ^^^ (np (u % F) (v / F)))))), (8, .int (nI (np (u / F) (v / F)))), (7, .int (nI (v % F))), (6, .int (nI (v / F))), (5, .int (nI (u % F))), (4, .int (nI (u / F))), (3, .int (nI F)), (0, .int (nI u)), (1, .int (nI v)), (2, .int (nI mx))]) hx hb dX6_productOf_100 hl (by decide) rfl (fun ls hl => ?_)
          refine lv_iload hx hb dX6_productOf_102 (lv_at hl 0 rfl) ?_
          refine lv_iload hx hb dX6_productOf_104 (lv_at hl 4 rfl) ?_
          refine lv_iload hx hb dX6_productOf_106 (lv_at hl 2 rfl) ?_
          refine z_ci (va_runS (As := [.int (nI (u % F)), .int (nI (v % F))]) (rest := [.int (nI (F * (((np (u / F) (v / F)) ^^^ (np (u / F) (v % F))) ^^^ (np (u % F) (v / F)))))]) ⟨hx, hb, hml, hown, hts⟩ (c_X6_productOf_4 l D (u % F) (v % F) (by omega) (by omega)) (va_cwS 2 hts gX6_productOf_X6_productOf rfl rfl rfl (by decide +kernel) ⟨Nat.le_of_ble_eq_true rfl, Nat.le_of_ble_eq_true rfl⟩) ⟨z_fb0, fun U hU hW => ⟨rfl, trivial⟩⟩ rfl rfl hl.1 rfl (lv_room (Nat.le_of_ble_eq_true rfl)) dX6_productOf_108 ⟨Nat.le_of_ble_eq_true rfl, Nat.le_of_ble_eq_true rfl⟩) (fun r108 e108 => ?_)
          subst e108
          have hn108 : np (u % F) (v % F) < 4 := np_4 _ (by omega) _ (by omega)
          refine lv_iload hx hb dX6_productOf_111 (lv_at hl 1 rfl) ?_
          refine lv_iload_n hx hb dX6_productOf_113 rfl (lv_at hl 6 rfl) ?_
          refine lv_iconst (v := nI 2) hx hb dX6_productOf_114 zki_2 ?_
          refine z_div hx hb (by omega) (by omega) (by omega) dX6_productOf_115 ?_
          refine z_ci (va_runS (As := [.int (nI (np (u / F) (v / F))), .int (nI (F / 2))]) (rest := [.int (nI (np (u % F) (v % F))), .int (nI (F * (((np (u / F) (v / F)) ^^^ (np (u / F) (v % F))) ^^^ (np (u % F) (v / F)))))]) ⟨hx, hb, hml, hown, hts⟩ (c_X6_productOf_4 l D (np (u / F) (v / F)) (F / 2) (by omega) (by omega)) (va_cwS 2 hts gX6_productOf_X6_productOf rfl rfl rfl (by decide +kernel) ⟨Nat.le_of_ble_eq_true rfl, Nat.le_of_ble_eq_true rfl⟩) ⟨z_fb0, fun U hU hW => ⟨rfl, trivial⟩⟩ rfl rfl hl.1 rfl (lv_room (Nat.le_of_ble_eq_true rfl)) dX6_productOf_116 ⟨Nat.le_of_ble_eq_true rfl, Nat.le_of_ble_eq_true rfl⟩) (fun r116 e116 => ?_)
          subst e116
          have hn116 : np (np (u / F) (v / F)) (F / 2) < 4 := np_4 _ (by omega) _ (by omega)
          refine z_ci (va_runS (As := [.int (nI (np (u % F) (v % F))), .int (nI (np (np (u / F) (v / F)) (F / 2)))]) (rest := [.int (nI (F * (((np (u / F) (v / F)) ^^^ (np (u / F) (v % F))) ^^^ (np (u % F) (v / F)))))]) ⟨hx, hb, hml, hown, hts⟩ (c_X6_sumOf l D (np (u % F) (v % F)) (np (np (u / F) (v / F)) (F / 2)) (by omega) (by omega)) (va_cwS 2 hts gX6_productOf_X6_sumOf rfl rfl rfl (by decide +kernel) ⟨Nat.le_of_ble_eq_true rfl, Nat.le_of_ble_eq_true rfl⟩) ⟨z_fb0, fun U hU hW => ⟨rfl, trivial⟩⟩ rfl rfl hl.1 rfl (lv_room (Nat.le_of_ble_eq_true rfl)) dX6_productOf_119 ⟨Nat.le_of_ble_eq_true rfl, Nat.le_of_ble_eq_true rfl⟩) (fun r119 e119 => ?_)
          subst e119
          have hx119 : (np (u % F) (v % F)) ^^^ (np (np (u / F) (v / F)) (F / 2)) < 256 := zx8 (by omega) (by omega)
          refine z_ci (va_runS (As := [.int (nI (F * (((np (u / F) (v / F)) ^^^ (np (u / F) (v % F))) ^^^ (np (u % F) (v / F))))), .int (nI ((np (u % F) (v % F)) ^^^ (np (np (u / F) (v / F)) (F / 2))))]) (rest := []) ⟨hx, hb, hml, hown, hts⟩ (c_X6_sumOf l D (F * (((np (u / F) (v / F)) ^^^ (np (u / F) (v % F))) ^^^ (np (u % F) (v / F)))) ((np (u % F) (v % F)) ^^^ (np (np (u / F) (v / F)) (F / 2))) (by omega) (by omega)) (va_cwS 2 hts gX6_productOf_X6_sumOf rfl rfl rfl (by decide +kernel) ⟨Nat.le_of_ble_eq_true rfl, Nat.le_of_ble_eq_true rfl⟩) ⟨z_fb0, fun U hU hW => ⟨rfl, trivial⟩⟩ rfl rfl hl.1 rfl (lv_room (Nat.le_of_ble_eq_true rfl)) dX6_productOf_122 ⟨Nat.le_of_ble_eq_true rfl, Nat.le_of_ble_eq_true rfl⟩) (fun r122 e122 => ?_)
          subst e122
          have hx122 : (F * (((np (u / F) (v / F)) ^^^ (np (u / F) (v % F))) ^^^ (np (u % F) (v / F)))) ^^^ ((np (u % F) (v % F)) ^^^ (np (np (u / F) (v / F)) (F / 2))) < 256 := zx8 (by omega) (by omega)
          exact W.iret hx hb hr (fun t ht _ => ⟨_, rfl, (by rw [np_rec (by omega) (by omega) (by omega) hF, Nat.xor_assoc]), ht⟩) (fun _ h => nomatch h) dX6_productOf_125
        refine lv_iload_n hx hb dX6_productOf_25 rfl (lv_at hl 0 rfl) ?_
        refine lv_bipush (v := nI 16) hx hb dX6_productOf_26 zkb_16 ?_
        refine z_clt (tgt := 36) hx hb (by omega) (by omega) dX6_productOf_28 (by decide) (fun c_28 => ?_) (fun c_28 => absurd c_28 (by omega))
        refine lv_iload_n hx hb dX6_productOf_36 rfl (lv_at hl 0 rfl) ?_
        refine lv_iconst (v := nI 4) hx hb dX6_productOf_37 zki_4 ?_
        refine z_clt (tgt := 45) hx hb (by omega) (by omega) dX6_productOf_38 (by decide) (fun c_38 => ?_) (fun c_38 => ?_)
        · refine lv_iconst (v := nI 2) hx hb dX6_productOf_45 zki_2 ?_
          exact cut_46 2 (by rw [← hm, zf, if_neg (by omega), if_neg (by omega)]) ls (lv_sub hl [1, 2, 0] rfl)
        · refine lv_iconst (v := nI 4) hx hb dX6_productOf_41 zki_4 ?_
          refine lv_goto (tgt := 46) hx hb dX6_productOf_42 (by decide) ?_
          exact cut_46 4 (by rw [← hm, zf, if_neg (by omega), if_pos (by omega)]) ls (lv_sub hl [1, 2, 0] rfl)
      refine lv_iload_n hx hb dX6_productOf_14 rfl (lv_at hl 0 rfl) ?_
      refine lv_iload_n hx hb dX6_productOf_15 rfl (lv_at hl 1 rfl) ?_
      refine z_cle (tgt := 23) hx hb (by omega) (by omega) dX6_productOf_16 (by decide) (fun c_16 => ?_) (fun c_16 => ?_)
      · refine lv_iload_n hx hb dX6_productOf_23 rfl (lv_at hl 1 rfl) ?_
        exact cut_24 v (by rw [zm, if_neg (by omega)]) ls (lv_sub hl [0, 1] rfl)
      · refine lv_iload_n hx hb dX6_productOf_19 rfl (lv_at hl 0 rfl) ?_
        refine lv_goto (tgt := 24) hx hb dX6_productOf_20 (by decide) ?_
        exact cut_24 u (by rw [zm, if_pos c_16]) ls (lv_sub hl [0, 1] rfl)
    · refine lv_iload_n hx hb dX6_productOf_10 rfl (lv_at hl 0 rfl) ?_
      refine lv_iload_n hx hb dX6_productOf_11 rfl (lv_at hl 1 rfl) ?_
      refine z_mul hx hb dX6_productOf_12 ?_
      exact W.iret hx hb hr (fun t ht _ => ⟨_, rfl, (by rw [np, if_pos (by omega)]), ht⟩) (fun _ h => nomatch h) dX6_productOf_13
abbrev rm_c_X6_productOf_256 : Room := { frames := 3, cells := 0, slots := 0, locals := 87 }
abbrev q_c_X6_productOf_256 (D : va_G) (u : Nat) (v : Nat) : Array Value → State → Outcome → State → Prop := vp_Si (fun r => r = (nI (np u v)))
set_option maxHeartbeats 4000000 in
set_option maxRecDepth 100000 in
theorem c_X6_productOf_256 (l : Launch) (D : va_G) (u : Nat) (v : Nat) (hu : u < 256) (hv8 : v < 256) : Met l yX6_productOf wsX6_productOf rm_c_X6_productOf_256 (va_Pc [.int (nI u), .int (nI v)] (fun _ => True)) (q_c_X6_productOf_256 D u v) 0 0 (fun _ => False) := by
  refine Met.ofW (cc := cX6_productOf) (maxL := 10) (ret := (some .int)) (by decide) rfl ?_
  intro p e s m args below meth c s₁ B hml hv
  obtain ⟨hargs, -⟩ := hv
  have hx := B.exec
  have hb := B.bytes
  have hr := B.returns
  have hts := atoms_spec (ws := wsX6_productOf) B.pre
  have hown : s.vm.findClass RX6 = some m.cls := findClass_of_methodNamed B.named
  have hlocks := B.notSynchronized
  have hl := lv_entry ([.int (nI u), .int (nI v)]) (n := 10) (Nat.le_of_ble_eq_true rfl)
  refine W.eq (g2 := F0 m 0 (lg_sl ([.int (nI u), .int (nI v)]) ++ List.replicate (10 - (lg_sl ([.int (nI u), .int (nI v)])).length) Slot.unset).toArray []) (by rw [hargs]; exact lg_entry_eq _ _ _) ?_
  generalize (lg_sl ([.int (nI u), .int (nI v)]) ++ List.replicate (10 - (lg_sl ([.int (nI u), .int (nI v)])).length) Slot.unset).toArray = ls at hl ⊢
  have hl : lv_has ls 10 [(0, .int (nI u)), (1, .int (nI v))] := hl
  refine lv_iload_n hx hb dX6_productOf_0 rfl (lv_at hl 0 rfl) ?_
  refine lv_iconst (v := nI 2) hx hb dX6_productOf_1 zki_2 ?_
  refine z_clt (tgt := 10) hx hb (by omega) (by omega) dX6_productOf_2 (by decide) (fun c_2 => ?_) (fun c_2 => ?_)
  · refine lv_iload_n hx hb dX6_productOf_10 rfl (lv_at hl 0 rfl) ?_
    refine lv_iload_n hx hb dX6_productOf_11 rfl (lv_at hl 1 rfl) ?_
    refine z_mul hx hb dX6_productOf_12 ?_
    exact W.iret hx hb hr (fun t ht _ => ⟨_, rfl, (by rw [np, if_pos (by omega)]), ht⟩) (fun _ h => nomatch h) dX6_productOf_13
  · refine lv_iload_n hx hb dX6_productOf_5 rfl (lv_at hl 1 rfl) ?_
    refine lv_iconst (v := nI 2) hx hb dX6_productOf_6 zki_2 ?_
    refine z_cge (tgt := 14) hx hb (by omega) (by omega) dX6_productOf_7 (by decide) (fun c_7 => ?_) (fun c_7 => ?_)
    · have cut_24 : ∀  (mx : Nat) (hm : mx = zm u v) (ls : Array Slot) (hl : lv_has ls 10 [(0, .int (nI u)), (1, .int (nI v))]), W p l e (headSpec wsX6_productOf rm_c_X6_productOf_256).room s m args below meth c s.heap [] 0 0 (MQ below (q_c_X6_productOf_256 D u v) args s 0 0 (fun _ => False)) (F0 m 24 ls [.int (nI mx)]) := by
        intro mx hm ls hl
        have hmx : mx < 256 := by rw [hm, zm]; split <;> omega
        refine lv_istore_n (lv' := [(2, .int (nI mx)), (0, .int (nI u)), (1, .int (nI v))]) hx hb dX6_productOf_24 rfl hl (by decide) rfl (fun ls hl => ?_)
        have cut_46 : ∀  (F : Nat) (hF : F = zf (zm u v)) (ls : Array Slot) (hl : lv_has ls 10 [(0, .int (nI u)), (1, .int (nI v)), (2, .int (nI mx))]), W p l e (headSpec wsX6_productOf rm_c_X6_productOf_256).room s m args below meth c s.heap [] 0 0 (MQ below (q_c_X6_productOf_256 D u v) args s 0 0 (fun _ => False)) (F0 m 46 ls [.int (nI F)]) := by
          intro F hF ls hl
          obtain ⟨hF3, hb1, hb2, hb3, hb4, hb5⟩ := zr_b hu hv8 hF
          have hF0 : 1 < F ∧ F < 17 := by omega
          refine lv_istore_n (lv' := [(3, .int (nI F)), (0, .int (nI u)), (1, .int (nI v)), (2, .int (nI mx))]) hx hb dX6_productOf_46 rfl hl (by decide) rfl (fun ls hl => ?_)
          refine lv_iload_n hx hb dX6_productOf_47 rfl (lv_at hl 1 rfl) ?_
          refine lv_iload_n hx hb dX6_productOf_48 rfl (lv_at hl 0 rfl) ?_
          refine z_div hx hb (by omega) (by omega) (by omega) dX6_productOf_49 ?_
          refine lv_istore (lv' := [(4, .int (nI (u / F))), (3, .int (nI F)), (0, .int (nI u)), (1, .int (nI v)), (2, .int (nI mx))]) hx hb dX6_productOf_50 hl (by decide) rfl (fun ls hl => ?_)
          refine lv_iload_n hx hb dX6_productOf_52 rfl (lv_at hl 2 rfl) ?_
          refine lv_iload_n hx hb dX6_productOf_53 rfl (lv_at hl 1 rfl) ?_
          refine z_rem hx hb (by omega) (by omega) (by omega) dX6_productOf_54 ?_
          refine lv_istore (lv' := [(5, .int (nI (u % F))), (4, .int (nI (u / F))), (3, .int (nI F)), (0, .int (nI u)), (1, .int (nI v)), (2, .int (nI mx))]) hx hb dX6_productOf_55 hl (by decide) rfl (fun ls hl => ?_)
          refine lv_iload_n hx hb dX6_productOf_57 rfl (lv_at hl 4 rfl) ?_
          refine lv_iload_n hx hb dX6_productOf_58 rfl (lv_at hl 2 rfl) ?_
          refine z_div hx hb (by omega) (by omega) (by omega) dX6_productOf_59 ?_
          refine lv_istore (lv' := [(6, .int (nI (v / F))), (5, .int (nI (u % F))), (4, .int (nI (u / F))), (3, .int (nI F)), (0, .int (nI u)), (1, .int (nI v)), (2, .int (nI mx))]) hx hb dX6_productOf_60 hl (by decide) rfl (fun ls hl => ?_)
          refine lv_iload_n hx hb dX6_productOf_62 rfl (lv_at hl 5 rfl) ?_
          refine lv_iload_n hx hb dX6_productOf_63 rfl (lv_at hl 3 rfl) ?_
          refine z_rem hx hb (by omega) (by omega) (by omega) dX6_productOf_64 ?_
          refine lv_istore (lv' := [(7, .int (nI (v % F))), (6, .int (nI (v / F))), (5, .int (nI (u % F))), (4, .int (nI (u / F))), (3, .int (nI F)), (0, .int (nI u)), (1, .int (nI v)), (2, .int (nI mx))]) hx hb dX6_productOf_65 hl (by decide) rfl (fun ls hl => ?_)
          refine lv_iload hx hb dX6_productOf_67 (lv_at hl 3 rfl) ?_
          refine lv_iload hx hb dX6_productOf_69 (lv_at hl 1 rfl) ?_
          refine z_ci (va_runS (As := [.int (nI (u / F)), .int (nI (v / F))]) (rest := []) ⟨hx, hb, hml, hown, hts⟩ (c_X6_productOf_16 l D (u / F) (v / F) (by omega) (by omega)) (va_cwS 2 hts gX6_productOf_X6_productOf rfl rfl rfl (by decide +kernel) ⟨Nat.le_of_ble_eq_true rfl, Nat.le_of_ble_eq_true rfl⟩) ⟨z_fb0, fun U hU hW => ⟨rfl, trivial⟩⟩ rfl rfl hl.1 rfl (lv_room (Nat.le_of_ble_eq_true rfl)) dX6_productOf_71 ⟨Nat.le_of_ble_eq_true rfl, Nat.le_of_ble_eq_true rfl⟩) (fun r71 e71 => ?_)
          subst e71
          have hn71 : np (u / F) (v / F) < 16 := np_16 _ (by omega) _ (by omega)
          refine lv_istore (lv' := [(8, .int (nI (np (u / F) (v / F)))), (7, .int (nI (v % F))), (6, .int (nI (v / F))), (5, .int (nI (u % F))), (4, .int (nI (u / F))), (3, .int (nI F)), (0, .int (nI u)), (1, .int (nI v)), (2, .int (nI mx))]) hx hb dX6_productOf_74 hl (by decide) rfl (fun ls hl => ?_)
          refine lv_iload_n hx hb dX6_productOf_76 rfl (lv_at hl 5 rfl) ?_
          refine lv_iload hx hb dX6_productOf_77 (lv_at hl 0 rfl) ?_
          refine lv_iload hx hb dX6_productOf_79 (lv_at hl 4 rfl) ?_
          refine lv_iload hx hb dX6_productOf_81 (lv_at hl 1 rfl) ?_
          refine z_ci (va_runS (As := [.int (nI (u / F)), .int (nI (v % F))]) (rest := [.int (nI (np (u / F) (v / F))), .int (nI F)]) ⟨hx, hb, hml, hown, hts⟩ (c_X6_productOf_16 l D (u / F) (v % F) (by omega) (by omega)) (va_cwS 2 hts gX6_productOf_X6_productOf rfl rfl rfl (by decide +kernel) ⟨Nat.le_of_ble_eq_true rfl, Nat.le_of_ble_eq_true rfl⟩) ⟨z_fb0, fun U hU hW => ⟨rfl, trivial⟩⟩ rfl rfl hl.1 rfl (lv_room (Nat.le_of_ble_eq_true rfl)) dX6_productOf_83 ⟨Nat.le_of_ble_eq_true rfl, Nat.le_of_ble_eq_true rfl⟩) (fun r83 e83 => ?_)
          subst e83
          have hn83 : np (u / F) (v % F) < 16 := np_16 _ (by omega) _ (by omega)
          refine z_ci (va_runS (As := [.int (nI (np (u / F) (v / F))), .int (nI (np (u / F) (v % F)))]) (rest := [.int (nI F)]) ⟨hx, hb, hml, hown, hts⟩ (c_X6_sumOf l D (np (u / F) (v / F)) (np (u / F) (v % F)) (by omega) (by omega)) (va_cwS 2 hts gX6_productOf_X6_sumOf rfl rfl rfl (by decide +kernel) ⟨Nat.le_of_ble_eq_true rfl, Nat.le_of_ble_eq_true rfl⟩) ⟨z_fb0, fun U hU hW => ⟨rfl, trivial⟩⟩ rfl rfl hl.1 rfl (lv_room (Nat.le_of_ble_eq_true rfl)) dX6_productOf_86 ⟨Nat.le_of_ble_eq_true rfl, Nat.le_of_ble_eq_true rfl⟩) (fun r86 e86 => ?_)
          subst e86
          have hx86 : (np (u / F) (v / F)) ^^^ (np (u / F) (v % F)) < 256 := zx8 (by omega) (by omega)
          refine lv_iload hx hb dX6_productOf_89 (lv_at hl 3 rfl) ?_
          refine lv_iload hx hb dX6_productOf_91 (lv_at hl 2 rfl) ?_
          refine z_ci (va_runS (As := [.int (nI (u % F)), .int (nI (v / F))]) (rest := [.int (nI ((np (u / F) (v / F)) ^^^ (np (u / F) (v % F)))), .int (nI F)]) ⟨hx, hb, hml, hown, hts⟩ (c_X6_productOf_16 l D (u % F) (v / F) (by omega) (by omega)) (va_cwS 2 hts gX6_productOf_X6_productOf rfl rfl rfl (by decide +kernel) ⟨Nat.le_of_ble_eq_true rfl, Nat.le_of_ble_eq_true rfl⟩) ⟨z_fb0, fun U hU hW => ⟨rfl, trivial⟩⟩ rfl rfl hl.1 rfl (lv_room (Nat.le_of_ble_eq_true rfl)) dX6_productOf_93 ⟨Nat.le_of_ble_eq_true rfl, Nat.le_of_ble_eq_true rfl⟩) (fun r93 e93 => ?_)
          subst e93
          have hn93 : np (u % F) (v / F) < 16 := np_16 _ (by omega) _ (by omega)
          refine z_ci (va_runS (As := [.int (nI ((np (u / F) (v / F)) ^^^ (np (u / F) (v % F)))), .int (nI (np (u % F) (v / F)))]) (rest := [.int (nI F)]) ⟨hx, hb, hml, hown, hts⟩ (c_X6_sumOf l D ((np (u / F) (v / F)) ^^^ (np (u / F) (v % F))) (np (u % F) (v / F)) (by omega) (by omega)) (va_cwS 2 hts gX6_productOf_X6_sumOf rfl rfl rfl (by decide +kernel) ⟨Nat.le_of_ble_eq_true rfl, Nat.le_of_ble_eq_true rfl⟩) ⟨z_fb0, fun U hU hW => ⟨rfl, trivial⟩⟩ rfl rfl hl.1 rfl (lv_room (Nat.le_of_ble_eq_true rfl)) dX6_productOf_96 ⟨Nat.le_of_ble_eq_true rfl, Nat.le_of_ble_eq_true rfl⟩) (fun r96 e96 => ?_)
          subst e96
          have hx96 : ((np (u / F) (v / F)) ^^^ (np (u / F) (v % F))) ^^^ (np (u % F) (v / F)) < 256 := zx8 (by omega) (by omega)
          have hx99 : (np (u / F) (v / F) ^^^ np (u / F) (v % F)) ^^^ np (u % F) (v / F) < 16 := zx4 (zx4 (by omega) (by omega)) (by omega)
          have hy99 : F * ((np (u / F) (v / F) ^^^ np (u / F) (v % F)) ^^^ np (u % F) (v / F)) < 256 := by
            generalize (np (u / F) (v / F) ^^^ np (u / F) (v % F)) ^^^ np (u % F) (v / F) = z9 at hx99 ⊢
            rcases hF3 with rfl | rfl | rfl <;> omega
          refine z_mul hx hb dX6_productOf_99 ?_
          refine lv_istore (lv' := [(9, .int (nI (F * (((np (u / F) (v / F)) ^^^ (np (u / F) (v % F))) ^^^ (np (u % F) (v / F)))))), (8, .int (nI (np (u / F) (v / F)))), (7, .int (nI (v % F))), (6, .int (nI (v / F))), (5, .int (nI (u % F))), (4, .int (nI (u / F))), (3, .int (nI F)), (0, .int (nI u)), (1, .int (nI v)), (2, .int (nI mx))]) hx hb dX6_productOf_100 hl (by decide) rfl (fun ls hl => ?_)
          refine lv_iload hx hb dX6_productOf_102 (lv_at hl 0 rfl) ?_
          refine lv_iload hx hb dX6_productOf_104 (lv_at hl 4 rfl) ?_
          refine lv_iload hx hb dX6_productOf_106 (lv_at hl 2 rfl) ?_
          refine z_ci (va_runS (As := [.int (nI (u % F)), .int (nI (v % F))]) (rest := [.int (nI (F * (((np (u / F) (v / F)) ^^^ (np (u / F) (v % F))) ^^^ (np (u % F) (v / F)))))]) ⟨hx, hb, hml, hown, hts⟩ (c_X6_productOf_16 l D (u % F) (v % F) (by omega) (by omega)) (va_cwS 2 hts gX6_productOf_X6_productOf rfl rfl rfl (by decide +kernel) ⟨Nat.le_of_ble_eq_true rfl, Nat.le_of_ble_eq_true rfl⟩) ⟨z_fb0, fun U hU hW => ⟨rfl, trivial⟩⟩ rfl rfl hl.1 rfl (lv_room (Nat.le_of_ble_eq_true rfl)) dX6_productOf_108 ⟨Nat.le_of_ble_eq_true rfl, Nat.le_of_ble_eq_true rfl⟩) (fun r108 e108 => ?_)
          subst e108
          have hn108 : np (u % F) (v % F) < 16 := np_16 _ (by omega) _ (by omega)
          refine lv_iload hx hb dX6_productOf_111 (lv_at hl 1 rfl) ?_
          refine lv_iload_n hx hb dX6_productOf_113 rfl (lv_at hl 6 rfl) ?_
          refine lv_iconst (v := nI 2) hx hb dX6_productOf_114 zki_2 ?_
          refine z_div hx hb (by omega) (by omega) (by omega) dX6_productOf_115 ?_
          refine z_ci (va_runS (As := [.int (nI (np (u / F) (v / F))), .int (nI (F / 2))]) (rest := [.int (nI (np (u % F) (v % F))), .int (nI (F * (((np (u / F) (v / F)) ^^^ (np (u / F) (v % F))) ^^^ (np (u % F) (v / F)))))]) ⟨hx, hb, hml, hown, hts⟩ (c_X6_productOf_16 l D (np (u / F) (v / F)) (F / 2) (by omega) (by omega)) (va_cwS 2 hts gX6_productOf_X6_productOf rfl rfl rfl (by decide +kernel) ⟨Nat.le_of_ble_eq_true rfl, Nat.le_of_ble_eq_true rfl⟩) ⟨z_fb0, fun U hU hW => ⟨rfl, trivial⟩⟩ rfl rfl hl.1 rfl (lv_room (Nat.le_of_ble_eq_true rfl)) dX6_productOf_116 ⟨Nat.le_of_ble_eq_true rfl, Nat.le_of_ble_eq_true rfl⟩) (fun r116 e116 => ?_)
          subst e116
          have hn116 : np (np (u / F) (v / F)) (F / 2) < 16 := np_16 _ (by omega) _ (by omega)
          refine z_ci (va_runS (As := [.int (nI (np (u % F) (v % F))), .int (nI (np (np (u / F) (v / F)) (F / 2)))]) (rest := [.int (nI (F * (((np (u / F) (v / F)) ^^^ (np (u / F) (v % F))) ^^^ (np (u % F) (v / F)))))]) ⟨hx, hb, hml, hown, hts⟩ (c_X6_sumOf l D (np (u % F) (v % F)) (np (np (u / F) (v / F)) (F / 2)) (by omega) (by omega)) (va_cwS 2 hts gX6_productOf_X6_sumOf rfl rfl rfl (by decide +kernel) ⟨Nat.le_of_ble_eq_true rfl, Nat.le_of_ble_eq_true rfl⟩) ⟨z_fb0, fun U hU hW => ⟨rfl, trivial⟩⟩ rfl rfl hl.1 rfl (lv_room (Nat.le_of_ble_eq_true rfl)) dX6_productOf_119 ⟨Nat.le_of_ble_eq_true rfl, Nat.le_of_ble_eq_true rfl⟩) (fun r119 e119 => ?_)
          subst e119
          have hx119 : (np (u % F) (v % F)) ^^^ (np (np (u / F) (v / F)) (F / 2)) < 256 := zx8 (by omega) (by omega)
          refine z_ci (va_runS (As := [.int (nI (F * (((np (u / F) (v / F)) ^^^ (np (u / F) (v % F))) ^^^ (np (u % F) (v / F))))), .int (nI ((np (u % F) (v % F)) ^^^ (np (np (u / F) (v / F)) (F / 2))))]) (rest := []) ⟨hx, hb, hml, hown, hts⟩ (c_X6_sumOf l D (F * (((np (u / F) (v / F)) ^^^ (np (u / F) (v % F))) ^^^ (np (u % F) (v / F)))) ((np (u % F) (v % F)) ^^^ (np (np (u / F) (v / F)) (F / 2))) (by omega) (by omega)) (va_cwS 2 hts gX6_productOf_X6_sumOf rfl rfl rfl (by decide +kernel) ⟨Nat.le_of_ble_eq_true rfl, Nat.le_of_ble_eq_true rfl⟩) ⟨z_fb0, fun U hU hW => ⟨rfl, trivial⟩⟩ rfl rfl hl.1 rfl (lv_room (Nat.le_of_ble_eq_true rfl)) dX6_productOf_122 ⟨Nat.le_of_ble_eq_true rfl, Nat.le_of_ble_eq_true rfl⟩) (fun r122 e122 => ?_)
          subst e122
          have hx122 : (F * (((np (u / F) (v / F)) ^^^ (np (u / F) (v % F))) ^^^ (np (u % F) (v / F)))) ^^^ ((np (u % F) (v % F)) ^^^ (np (np (u / F) (v / F)) (F / 2))) < 256 := zx8 (by omega) (by omega)
          exact W.iret hx hb hr (fun t ht _ => ⟨_, rfl, (by rw [np_rec (by omega) (by omega) (by omega) hF, Nat.xor_assoc]), ht⟩) (fun _ h => nomatch h) dX6_productOf_125
        refine lv_iload_n hx hb dX6_productOf_25 rfl (lv_at hl 0 rfl) ?_
        refine lv_bipush (v := nI 16) hx hb dX6_productOf_26 zkb_16 ?_
        refine z_clt (tgt := 36) hx hb (by omega) (by omega) dX6_productOf_28 (by decide) (fun c_28 => ?_) (fun c_28 => ?_)
        · refine lv_iload_n hx hb dX6_productOf_36 rfl (lv_at hl 0 rfl) ?_
          refine lv_iconst (v := nI 4) hx hb dX6_productOf_37 zki_4 ?_
          refine z_clt (tgt := 45) hx hb (by omega) (by omega) dX6_productOf_38 (by decide) (fun c_38 => ?_) (fun c_38 => ?_)
          · refine lv_iconst (v := nI 2) hx hb dX6_productOf_45 zki_2 ?_
            exact cut_46 2 (by rw [← hm, zf, if_neg (by omega), if_neg (by omega)]) ls (lv_sub hl [1, 2, 0] rfl)
          · refine lv_iconst (v := nI 4) hx hb dX6_productOf_41 zki_4 ?_
            refine lv_goto (tgt := 46) hx hb dX6_productOf_42 (by decide) ?_
            exact cut_46 4 (by rw [← hm, zf, if_neg (by omega), if_pos (by omega)]) ls (lv_sub hl [1, 2, 0] rfl)
        · refine lv_bipush (v := nI 16) hx hb dX6_productOf_31 zkb_16 ?_
          refine lv_goto (tgt := 46) hx hb dX6_productOf_33 (by decide) ?_
          exact cut_46 16 (by rw [← hm, zf, if_pos (by omega)]) ls (lv_sub hl [1, 2, 0] rfl)
      refine lv_iload_n hx hb dX6_productOf_14 rfl (lv_at hl 0 rfl) ?_
      refine lv_iload_n hx hb dX6_productOf_15 rfl (lv_at hl 1 rfl) ?_
      refine z_cle (tgt := 23) hx hb (by omega) (by omega) dX6_productOf_16 (by decide) (fun c_16 => ?_) (fun c_16 => ?_)
      · refine lv_iload_n hx hb dX6_productOf_23 rfl (lv_at hl 1 rfl) ?_
        exact cut_24 v (by rw [zm, if_neg (by omega)]) ls (lv_sub hl [0, 1] rfl)
      · refine lv_iload_n hx hb dX6_productOf_19 rfl (lv_at hl 0 rfl) ?_
        refine lv_goto (tgt := 24) hx hb dX6_productOf_20 (by decide) ?_
        exact cut_24 u (by rw [zm, if_pos c_16]) ls (lv_sub hl [0, 1] rfl)
    · refine lv_iload_n hx hb dX6_productOf_10 rfl (lv_at hl 0 rfl) ?_
      refine lv_iload_n hx hb dX6_productOf_11 rfl (lv_at hl 1 rfl) ?_
      refine z_mul hx hb dX6_productOf_12 ?_
      exact W.iret hx hb hr (fun t ht _ => ⟨_, rfl, (by rw [np, if_pos (by omega)]), ht⟩) (fun _ h => nomatch h) dX6_productOf_13
abbrev rm_c_X6_powerOf : Room := { frames := 4, cells := 0, slots := 0, locals := 116 }
abbrev q_c_X6_powerOf (D : va_G) (u : Nat) (n0 : Nat) : Array Value → State → Outcome → State → Prop := vp_Si (fun r => r = (nI (pw u n0)))
set_option maxHeartbeats 4000000 in
set_option maxRecDepth 100000 in
theorem c_X6_powerOf (l : Launch) (D : va_G) (u : Nat) (n0 : Nat) (hu : u < 256) (hn0 : n0 < 2147483648) : Met l yX6_powerOf wsX6_powerOf rm_c_X6_powerOf (va_Pc [.int (nI u), .int (nI n0)] (fun _ => True)) (q_c_X6_powerOf D u n0) 0 0 (fun _ => False) := by
  refine Met.ofW (cc := cX6_powerOf) (maxL := 5) (ret := (some .int)) (by decide) rfl ?_
  intro p e s m args below meth c s₁ B hml hv
  obtain ⟨hargs, -⟩ := hv
  have hx := B.exec
  have hb := B.bytes
  have hr := B.returns
  have hts := atoms_spec (ws := wsX6_powerOf) B.pre
  have hown : s.vm.findClass RX6 = some m.cls := findClass_of_methodNamed B.named
  have hlocks := B.notSynchronized
  have hl := lv_entry ([.int (nI u), .int (nI n0)]) (n := 5) (Nat.le_of_ble_eq_true rfl)
  refine W.eq (g2 := F0 m 0 (lg_sl ([.int (nI u), .int (nI n0)]) ++ List.replicate (5 - (lg_sl ([.int (nI u), .int (nI n0)])).length) Slot.unset).toArray []) (by rw [hargs]; exact lg_entry_eq _ _ _) ?_
  generalize (lg_sl ([.int (nI u), .int (nI n0)]) ++ List.replicate (5 - (lg_sl ([.int (nI u), .int (nI n0)])).length) Slot.unset).toArray = ls at hl ⊢
  have hl : lv_has ls 5 [(0, .int (nI u)), (1, .int (nI n0))] := hl
  refine lv_iconst (v := nI 1) hx hb dX6_powerOf_0 zki_1 ?_
  refine lv_istore_n (lv' := [(2, .int (nI 1)), (0, .int (nI u)), (1, .int (nI n0))]) hx hb dX6_powerOf_1 rfl hl (by decide) rfl (fun ls hl => ?_)
  refine lv_iload_n hx hb dX6_powerOf_2 rfl (lv_at hl 1 rfl) ?_
  refine lv_istore_n (lv' := [(3, .int (nI u)), (2, .int (nI 1)), (0, .int (nI u)), (1, .int (nI n0))]) hx hb dX6_powerOf_3 rfl hl (by decide) rfl (fun ls hl => ?_)
  refine lv_iload_n hx hb dX6_powerOf_4 rfl (lv_at hl 3 rfl) ?_
  refine lv_istore (lv' := [(4, .int (nI n0)), (3, .int (nI u)), (2, .int (nI 1)), (0, .int (nI u)), (1, .int (nI n0))]) hx hb dX6_powerOf_5 hl (by decide) rfl (fun ls hl => ?_)
  have cut_7 : ∀ (nn9 : Nat) (r : Nat) (xv : Nat) (k : Nat) (d : Nat) (hr1 : r < 256) (hx1 : xv < 256) (hk1 : k < 2 ^ d) (hk2 : k < 2147483648) (hinv : pwf d r xv k = pwf 31 1 u n0) (hn9 : k < nn9) (ls : Array Slot) (hl : lv_has ls 5 [(0, .int (nI u)), (1, .int (nI n0)), (2, .int (nI r)), (3, .int (nI xv)), (4, .int (nI k))]), W p l e (headSpec wsX6_powerOf rm_c_X6_powerOf).room s m args below meth c s.heap [] 0 0 (MQ below (q_c_X6_powerOf D u n0) args s 0 0 (fun _ => False)) (F0 m 7 ls []) := by
    intro nn9
    induction nn9 with
    | zero => intro r xv k d hr1 hx1 hk1 hk2 hinv hn9; exact absurd hn9 (Nat.not_lt_zero _)
    | succ nn9 ih_7 =>
      intro r xv k d hr1 hx1 hk1 hk2 hinv hn9 ls hl
      refine lv_iload hx hb dX6_powerOf_7 (lv_at hl 4 rfl) ?_
      refine z_fle (tgt := 45) hx hb (by omega) dX6_powerOf_9 (by decide) (fun c_9 => ?_) (fun c_9 => ?_)
      · refine lv_iload_n hx hb dX6_powerOf_45 rfl (lv_at hl 2 rfl) ?_
        exact W.iret hx hb hr (fun t ht _ => ⟨_, rfl, (by rw [show k = 0 by omega, pwf_0] at hinv; exact congrArg nI hinv), ht⟩) (fun _ h => nomatch h) dX6_powerOf_46
      · obtain ⟨d2, rfl⟩ : ∃ z, d = z + 1 := by
          cases d with
          | zero => rw [Nat.pow_zero] at hk1; omega
          | succ z => exact ⟨z, rfl⟩
        rw [pwf_s (by omega)] at hinv
        have hk3 : k / 2 < 2 ^ d2 := by rw [Nat.pow_succ] at hk1; omega
        refine lv_iload hx hb dX6_powerOf_12 (lv_at hl 4 rfl) ?_
        refine lv_iconst (v := nI 2) hx hb dX6_powerOf_14 zki_2 ?_
        refine z_rem hx hb (by omega) (by omega) (by omega) dX6_powerOf_15 ?_
        refine lv_iconst (v := nI 1) hx hb dX6_powerOf_16 zki_1 ?_
        refine z_cne (tgt := 28) hx hb (by omega) (by omega) dX6_powerOf_17 (by decide) (fun c_17 => ?_) (fun c_17 => ?_)
        · rw [if_neg c_17] at hinv
          refine lv_iload_n hx hb dX6_powerOf_28 rfl (lv_at hl 2 rfl) ?_
          refine lv_istore_n (lv' := [(2, .int (nI r)), (0, .int (nI u)), (1, .int (nI n0)), (3, .int (nI xv)), (4, .int (nI k))]) hx hb dX6_powerOf_29 rfl hl (by decide) rfl (fun ls hl => ?_)
          refine lv_iload_n hx hb dX6_powerOf_30 rfl (lv_at hl 3 rfl) ?_
          refine lv_iload_n hx hb dX6_powerOf_31 rfl (lv_at hl 3 rfl) ?_
          refine z_ci (va_runS (As := [.int (nI xv), .int (nI xv)]) (rest := []) ⟨hx, hb, hml, hown, hts⟩ (c_X6_productOf_256 l D xv xv (by omega) (by omega)) (va_cwS 2 hts gX6_powerOf_X6_productOf rfl rfl rfl (by decide +kernel) ⟨Nat.le_of_ble_eq_true rfl, Nat.le_of_ble_eq_true rfl⟩) ⟨z_fb0, fun U hU hW => ⟨rfl, trivial⟩⟩ rfl rfl hl.1 rfl (lv_room (Nat.le_of_ble_eq_true rfl)) dX6_powerOf_32 ⟨Nat.le_of_ble_eq_true rfl, Nat.le_of_ble_eq_true rfl⟩) (fun r32 e32 => ?_)
          subst e32
          have hn32 : np xv xv < 256 := np_lt (by omega) (by omega)
          refine lv_istore_n (lv' := [(3, .int (nI (np xv xv))), (2, .int (nI r)), (0, .int (nI u)), (1, .int (nI n0)), (4, .int (nI k))]) hx hb dX6_powerOf_35 rfl hl (by decide) rfl (fun ls hl => ?_)
          refine lv_iload hx hb dX6_powerOf_36 (lv_at hl 4 rfl) ?_
          refine lv_iconst (v := nI 2) hx hb dX6_powerOf_38 zki_2 ?_
          refine z_div hx hb (by omega) (by omega) (by omega) dX6_powerOf_39 ?_
          refine lv_istore (lv' := [(4, .int (nI (k / 2))), (3, .int (nI (np xv xv))), (2, .int (nI r)), (0, .int (nI u)), (1, .int (nI n0))]) hx hb dX6_powerOf_40 hl (by decide) rfl (fun ls hl => ?_)
          refine lv_goto (tgt := 7) hx hb dX6_powerOf_42 (by decide) ?_
          exact ih_7 r (np xv xv) (k / 2) d2 (by omega) (by omega) (hk3) (by omega) (hinv) (by omega) ls (lv_sub hl [3, 4, 2, 1, 0] rfl)
        · rw [if_pos c_17] at hinv
          refine lv_iload_n hx hb dX6_powerOf_20 rfl (lv_at hl 2 rfl) ?_
          refine lv_iload_n hx hb dX6_powerOf_21 rfl (lv_at hl 3 rfl) ?_
          refine z_ci (va_runS (As := [.int (nI r), .int (nI xv)]) (rest := []) ⟨hx, hb, hml, hown, hts⟩ (c_X6_productOf_256 l D r xv (by omega) (by omega)) (va_cwS 2 hts gX6_powerOf_X6_productOf rfl rfl rfl (by decide +kernel) ⟨Nat.le_of_ble_eq_true rfl, Nat.le_of_ble_eq_true rfl⟩) ⟨z_fb0, fun U hU hW => ⟨rfl, trivial⟩⟩ rfl rfl hl.1 rfl (lv_room (Nat.le_of_ble_eq_true rfl)) dX6_powerOf_22 ⟨Nat.le_of_ble_eq_true rfl, Nat.le_of_ble_eq_true rfl⟩) (fun r22 e22 => ?_)
          subst e22
          have hn22 : np r xv < 256 := np_lt (by omega) (by omega)
          refine lv_goto (tgt := 29) hx hb dX6_powerOf_25 (by decide) ?_
          refine lv_istore_n (lv' := [(2, .int (nI (np r xv))), (0, .int (nI u)), (1, .int (nI n0)), (3, .int (nI xv)), (4, .int (nI k))]) hx hb dX6_powerOf_29 rfl hl (by decide) rfl (fun ls hl => ?_)
          refine lv_iload_n hx hb dX6_powerOf_30 rfl (lv_at hl 3 rfl) ?_
          refine lv_iload_n hx hb dX6_powerOf_31 rfl (lv_at hl 3 rfl) ?_
          refine z_ci (va_runS (As := [.int (nI xv), .int (nI xv)]) (rest := []) ⟨hx, hb, hml, hown, hts⟩ (c_X6_productOf_256 l D xv xv (by omega) (by omega)) (va_cwS 2 hts gX6_powerOf_X6_productOf rfl rfl rfl (by decide +kernel) ⟨Nat.le_of_ble_eq_true rfl, Nat.le_of_ble_eq_true rfl⟩) ⟨z_fb0, fun U hU hW => ⟨rfl, trivial⟩⟩ rfl rfl hl.1 rfl (lv_room (Nat.le_of_ble_eq_true rfl)) dX6_powerOf_32 ⟨Nat.le_of_ble_eq_true rfl, Nat.le_of_ble_eq_true rfl⟩) (fun r32 e32 => ?_)
          subst e32
          have hn32 : np xv xv < 256 := np_lt (by omega) (by omega)
          refine lv_istore_n (lv' := [(3, .int (nI (np xv xv))), (2, .int (nI (np r xv))), (0, .int (nI u)), (1, .int (nI n0)), (4, .int (nI k))]) hx hb dX6_powerOf_35 rfl hl (by decide) rfl (fun ls hl => ?_)
          refine lv_iload hx hb dX6_powerOf_36 (lv_at hl 4 rfl) ?_
          refine lv_iconst (v := nI 2) hx hb dX6_powerOf_38 zki_2 ?_
          refine z_div hx hb (by omega) (by omega) (by omega) dX6_powerOf_39 ?_
          refine lv_istore (lv' := [(4, .int (nI (k / 2))), (3, .int (nI (np xv xv))), (2, .int (nI (np r xv))), (0, .int (nI u)), (1, .int (nI n0))]) hx hb dX6_powerOf_40 hl (by decide) rfl (fun ls hl => ?_)
          refine lv_goto (tgt := 7) hx hb dX6_powerOf_42 (by decide) ?_
          exact ih_7 (np r xv) (np xv xv) (k / 2) d2 (by omega) (by omega) (hk3) (by omega) (hinv) (by omega) ls (lv_sub hl [3, 4, 2, 1, 0] rfl)
  exact cut_7 (n0 + 1) 1 u n0 31 (by omega) (by omega) (hn0) (hn0) (rfl) (Nat.lt_succ_self _) ls (lv_sub hl [3, 4, 2, 1, 0] rfl)
abbrev rm_c_X6_rootOf : Room := { frames := 4, cells := 0, slots := 0, locals := 116 }
abbrev q_c_X6_rootOf (D : va_G) (u : Nat) : Array Value → State → Outcome → State → Prop := vp_Si (fun r => r = (nI (rt u)))
set_option maxHeartbeats 4000000 in
set_option maxRecDepth 100000 in
theorem c_X6_rootOf (l : Launch) (D : va_G) (u : Nat) (hu : u < 256) : Met l yX6_rootOf wsX6_rootOf rm_c_X6_rootOf (va_Pc [.int (nI u)] (fun _ => True)) (q_c_X6_rootOf D u) 0 0 (fun _ => False) := by
  refine Met.ofW (cc := cX6_rootOf) (maxL := 2) (ret := (some .int)) (by decide) rfl ?_
  intro p e s m args below meth c s₁ B hml hv
  obtain ⟨hargs, -⟩ := hv
  have hx := B.exec
  have hb := B.bytes
  have hr := B.returns
  have hts := atoms_spec (ws := wsX6_rootOf) B.pre
  have hown : s.vm.findClass RX6 = some m.cls := findClass_of_methodNamed B.named
  have hlocks := B.notSynchronized
  have hl := lv_entry ([.int (nI u)]) (n := 2) (Nat.le_of_ble_eq_true rfl)
  refine W.eq (g2 := F0 m 0 (lg_sl ([.int (nI u)]) ++ List.replicate (2 - (lg_sl ([.int (nI u)])).length) Slot.unset).toArray []) (by rw [hargs]; exact lg_entry_eq _ _ _) ?_
  generalize (lg_sl ([.int (nI u)]) ++ List.replicate (2 - (lg_sl ([.int (nI u)])).length) Slot.unset).toArray = ls at hl ⊢
  have hl : lv_has ls 2 [(0, .int (nI u))] := hl
  refine lv_iconst (v := nI 0) hx hb dX6_rootOf_0 zki_0 ?_
  refine lv_istore_n (lv' := [(1, .int (nI 0)), (0, .int (nI u))]) hx hb dX6_rootOf_1 rfl hl (by decide) rfl (fun ls hl => ?_)
  have cut_2 : ∀ (nn9 : Nat) (i : Nat) (hi : i ≤ rt u) (hrt : rt u < 256) (hn9 : rt u - i < nn9) (ls : Array Slot) (hl : lv_has ls 2 [(0, .int (nI u)), (1, .int (nI i))]), W p l e (headSpec wsX6_rootOf rm_c_X6_rootOf).room s m args below meth c s.heap [] 0 0 (MQ below (q_c_X6_rootOf D u) args s 0 0 (fun _ => False)) (F0 m 2 ls []) := by
    intro nn9
    induction nn9 with
    | zero => intro i hi hrt hn9; exact absurd hn9 (Nat.not_lt_zero _)
    | succ nn9 ih_2 =>
      intro i hi hrt hn9 ls hl
      refine lv_iload_n hx hb dX6_rootOf_2 rfl (lv_at hl 1 rfl) ?_
      refine lv_iload_n hx hb dX6_rootOf_3 rfl (lv_at hl 1 rfl) ?_
      refine z_ci (va_runS (As := [.int (nI i), .int (nI i)]) (rest := []) ⟨hx, hb, hml, hown, hts⟩ (c_X6_productOf_256 l D i i (by omega) (by omega)) (va_cwS 2 hts gX6_rootOf_X6_productOf rfl rfl rfl (by decide +kernel) ⟨Nat.le_of_ble_eq_true rfl, Nat.le_of_ble_eq_true rfl⟩) ⟨z_fb0, fun U hU hW => ⟨rfl, trivial⟩⟩ rfl rfl hl.1 rfl (lv_room (Nat.le_of_ble_eq_true rfl)) dX6_rootOf_4 ⟨Nat.le_of_ble_eq_true rfl, Nat.le_of_ble_eq_true rfl⟩) (fun r4 e4 => ?_)
      subst e4
      have hn4 : np i i < 256 := np_lt (by omega) (by omega)
      refine lv_iload_n hx hb dX6_rootOf_7 rfl (lv_at hl 0 rfl) ?_
      refine z_ceq (tgt := 17) hx hb (by omega) (by omega) dX6_rootOf_8 (by decide) (fun c_8 => ?_) (fun c_8 => ?_)
      · refine lv_iload_n hx hb dX6_rootOf_17 rfl (lv_at hl 1 rfl) ?_
        exact W.iret hx hb hr (fun t ht _ => ⟨_, rfl, (by rw [← c_8, rt_one (by omega)]), ht⟩) (fun _ h => nomatch h) dX6_rootOf_18
      · have hne : i < rt u := Nat.lt_of_le_of_ne hi (fun q => c_8 (by rw [q]; exact rt_sq hu))
        refine lv_iinc (v := (nI (i + 1))) (lv' := [(1, .int (nI (i + 1))), (0, .int (nI u))]) hx hb dX6_rootOf_11 hl (k := 1) rfl (z_inc i 1) (by decide) rfl (fun ls hl => ?_)
        refine lv_goto (tgt := 2) hx hb dX6_rootOf_14 (by decide) ?_
        exact ih_2 (i + 1) (by omega) (by omega) (by omega) ls (lv_sub hl [1, 0] rfl)
  exact cut_2 ((rt u - 0) + 1) 0 (Nat.zero_le _) (rt_lt hu) (Nat.lt_succ_self _) ls (lv_sub hl [1, 0] rfl)
abbrev rm_c_X6_quotientOf : Room := { frames := 4, cells := 0, slots := 0, locals := 116 }
abbrev q_c_X6_quotientOf (D : va_G) (u : Nat) (v : Nat) : Array Value → State → Outcome → State → Prop := vp_Si (fun r => r = (nI (qt u v)))
set_option maxHeartbeats 4000000 in
set_option maxRecDepth 100000 in
theorem c_X6_quotientOf (l : Launch) (D : va_G) (u : Nat) (v : Nat) (hu : u < 256) (hv8 : v < 256) (hv0 : 0 < v) : Met l yX6_quotientOf wsX6_quotientOf rm_c_X6_quotientOf (va_Pc [.int (nI u), .int (nI v)] (fun _ => True)) (q_c_X6_quotientOf D u v) 0 0 (fun _ => False) := by
  refine Met.ofW (cc := cX6_quotientOf) (maxL := 3) (ret := (some .int)) (by decide) rfl ?_
  intro p e s m args below meth c s₁ B hml hv
  obtain ⟨hargs, -⟩ := hv
  have hx := B.exec
  have hb := B.bytes
  have hr := B.returns
  have hts := atoms_spec (ws := wsX6_quotientOf) B.pre
  have hown : s.vm.findClass RX6 = some m.cls := findClass_of_methodNamed B.named
  have hlocks := B.notSynchronized
  have hl := lv_entry ([.int (nI u), .int (nI v)]) (n := 3) (Nat.le_of_ble_eq_true rfl)
  refine W.eq (g2 := F0 m 0 (lg_sl ([.int (nI u), .int (nI v)]) ++ List.replicate (3 - (lg_sl ([.int (nI u), .int (nI v)])).length) Slot.unset).toArray []) (by rw [hargs]; exact lg_entry_eq _ _ _) ?_
  generalize (lg_sl ([.int (nI u), .int (nI v)]) ++ List.replicate (3 - (lg_sl ([.int (nI u), .int (nI v)])).length) Slot.unset).toArray = ls at hl ⊢
  have hl : lv_has ls 3 [(0, .int (nI u)), (1, .int (nI v))] := hl
  refine lv_iconst (v := nI 0) hx hb dX6_quotientOf_0 zki_0 ?_
  refine lv_istore_n (lv' := [(2, .int (nI 0)), (0, .int (nI u)), (1, .int (nI v))]) hx hb dX6_quotientOf_1 rfl hl (by decide) rfl (fun ls hl => ?_)
  have cut_2 : ∀ (nn9 : Nat) (i : Nat) (hi : i ≤ qt u v) (hqt : qt u v < 256) (hn9 : qt u v - i < nn9) (ls : Array Slot) (hl : lv_has ls 3 [(0, .int (nI u)), (1, .int (nI v)), (2, .int (nI i))]), W p l e (headSpec wsX6_quotientOf rm_c_X6_quotientOf).room s m args below meth c s.heap [] 0 0 (MQ below (q_c_X6_quotientOf D u v) args s 0 0 (fun _ => False)) (F0 m 2 ls []) := by
    intro nn9
    induction nn9 with
    | zero => intro i hi hqt hn9; exact absurd hn9 (Nat.not_lt_zero _)
    | succ nn9 ih_2 =>
      intro i hi hqt hn9 ls hl
      refine lv_iload_n hx hb dX6_quotientOf_2 rfl (lv_at hl 2 rfl) ?_
      refine lv_iload_n hx hb dX6_quotientOf_3 rfl (lv_at hl 1 rfl) ?_
      refine z_ci (va_runS (As := [.int (nI i), .int (nI v)]) (rest := []) ⟨hx, hb, hml, hown, hts⟩ (c_X6_productOf_256 l D i v (by omega) (by omega)) (va_cwS 2 hts gX6_quotientOf_X6_productOf rfl rfl rfl (by decide +kernel) ⟨Nat.le_of_ble_eq_true rfl, Nat.le_of_ble_eq_true rfl⟩) ⟨z_fb0, fun U hU hW => ⟨rfl, trivial⟩⟩ rfl rfl hl.1 rfl (lv_room (Nat.le_of_ble_eq_true rfl)) dX6_quotientOf_4 ⟨Nat.le_of_ble_eq_true rfl, Nat.le_of_ble_eq_true rfl⟩) (fun r4 e4 => ?_)
      subst e4
      have hn4 : np i v < 256 := np_lt (by omega) (by omega)
      refine lv_iload_n hx hb dX6_quotientOf_7 rfl (lv_at hl 0 rfl) ?_
      refine z_ceq (tgt := 17) hx hb (by omega) (by omega) dX6_quotientOf_8 (by decide) (fun c_8 => ?_) (fun c_8 => ?_)
      · refine lv_iload_n hx hb dX6_quotientOf_17 rfl (lv_at hl 2 rfl) ?_
        exact W.iret hx hb hr (fun t ht _ => ⟨_, rfl, (by rw [← c_8, qt_one (by omega) hv0 hv8]), ht⟩) (fun _ h => nomatch h) dX6_quotientOf_18
      · have hne : i < qt u v := Nat.lt_of_le_of_ne hi (fun q => c_8 (by rw [q]; exact qt_mul hu hv0 hv8))
        refine lv_iinc (v := (nI (i + 1))) (lv' := [(2, .int (nI (i + 1))), (0, .int (nI u)), (1, .int (nI v))]) hx hb dX6_quotientOf_11 hl (k := 2) rfl (z_inc i 1) (by decide) rfl (fun ls hl => ?_)
        refine lv_goto (tgt := 2) hx hb dX6_quotientOf_14 (by decide) ?_
        exact ih_2 (i + 1) (by omega) (by omega) (by omega) ls (lv_sub hl [1, 2, 0] rfl)
  exact cut_2 ((qt u v - 0) + 1) 0 (Nat.zero_le _) (qt_lt hu hv8) (Nat.lt_succ_self _) ls (lv_sub hl [1, 2, 0] rfl)
abbrev rm_c_X6_traceOf : Room := { frames := 4, cells := 0, slots := 0, locals := 116 }
abbrev q_c_X6_traceOf (D : va_G) (u : Nat) : Array Value → State → Outcome → State → Prop := vp_Si (fun r => r = (nI (tr u)))
set_option maxHeartbeats 4000000 in
set_option maxRecDepth 100000 in
theorem c_X6_traceOf (l : Launch) (D : va_G) (u : Nat) (hu : u < 256) : Met l yX6_traceOf wsX6_traceOf rm_c_X6_traceOf (va_Pc [.int (nI u)] (fun _ => True)) (q_c_X6_traceOf D u) 0 0 (fun _ => False) := by
  refine Met.ofW (cc := cX6_traceOf) (maxL := 4) (ret := (some .int)) (by decide) rfl ?_
  intro p e s m args below meth c s₁ B hml hv
  obtain ⟨hargs, -⟩ := hv
  have hx := B.exec
  have hb := B.bytes
  have hr := B.returns
  have hts := atoms_spec (ws := wsX6_traceOf) B.pre
  have hown : s.vm.findClass RX6 = some m.cls := findClass_of_methodNamed B.named
  have hlocks := B.notSynchronized
  have hl := lv_entry ([.int (nI u)]) (n := 4) (Nat.le_of_ble_eq_true rfl)
  refine W.eq (g2 := F0 m 0 (lg_sl ([.int (nI u)]) ++ List.replicate (4 - (lg_sl ([.int (nI u)])).length) Slot.unset).toArray []) (by rw [hargs]; exact lg_entry_eq _ _ _) ?_
  generalize (lg_sl ([.int (nI u)]) ++ List.replicate (4 - (lg_sl ([.int (nI u)])).length) Slot.unset).toArray = ls at hl ⊢
  have hl : lv_has ls 4 [(0, .int (nI u))] := hl
  refine lv_iconst (v := nI 0) hx hb dX6_traceOf_0 zki_0 ?_
  refine lv_istore_n (lv' := [(1, .int (nI 0)), (0, .int (nI u))]) hx hb dX6_traceOf_1 rfl hl (by decide) rfl (fun ls hl => ?_)
  refine lv_iload_n hx hb dX6_traceOf_2 rfl (lv_at hl 1 rfl) ?_
  refine lv_istore_n (lv' := [(2, .int (nI u)), (1, .int (nI 0)), (0, .int (nI u))]) hx hb dX6_traceOf_3 rfl hl (by decide) rfl (fun ls hl => ?_)
  refine lv_iconst (v := nI 0) hx hb dX6_traceOf_4 zki_0 ?_
  refine lv_istore_n (lv' := [(3, .int (nI 0)), (2, .int (nI u)), (1, .int (nI 0)), (0, .int (nI u))]) hx hb dX6_traceOf_5 rfl hl (by decide) rfl (fun ls hl => ?_)
  have cut_6 : ∀ (nn9 : Nat) (i : Nat) (sv : Nat) (xv : Nat) (hi : i ≤ 8) (hsv : sv < 256) (hxv : xv < 256) (hinv : trf (8 - i) sv xv = tr u) (hn9 : 8 - i < nn9) (ls : Array Slot) (hl : lv_has ls 4 [(0, .int (nI u)), (1, .int (nI sv)), (2, .int (nI xv)), (3, .int (nI i))]), W p l e (headSpec wsX6_traceOf rm_c_X6_traceOf).room s m args below meth c s.heap [] 0 0 (MQ below (q_c_X6_traceOf D u) args s 0 0 (fun _ => False)) (F0 m 6 ls []) := by
    intro nn9
    induction nn9 with
    | zero => intro i sv xv hi hsv hxv hinv hn9; exact absurd hn9 (Nat.not_lt_zero _)
    | succ nn9 ih_6 =>
      intro i sv xv hi hsv hxv hinv hn9 ls hl
      refine lv_iload_n hx hb dX6_traceOf_6 rfl (lv_at hl 3 rfl) ?_
      refine lv_bipush (v := nI 8) hx hb dX6_traceOf_7 zkb_8 ?_
      refine z_cge (tgt := 30) hx hb (by omega) (by omega) dX6_traceOf_9 (by decide) (fun c_9 => ?_) (fun c_9 => ?_)
      · refine lv_iload_n hx hb dX6_traceOf_30 rfl (lv_at hl 1 rfl) ?_
        exact W.iret hx hb hr (fun t ht _ => ⟨_, rfl, (by rw [← hinv, show 8 - i = 0 by omega]; rfl), ht⟩) (fun _ h => nomatch h) dX6_traceOf_31
      · refine lv_iload_n hx hb dX6_traceOf_12 rfl (lv_at hl 1 rfl) ?_
        refine lv_iload_n hx hb dX6_traceOf_13 rfl (lv_at hl 2 rfl) ?_
        refine z_ci (va_runS (As := [.int (nI sv), .int (nI xv)]) (rest := []) ⟨hx, hb, hml, hown, hts⟩ (c_X6_sumOf l D sv xv (by omega) (by omega)) (va_cwS 2 hts gX6_traceOf_X6_sumOf rfl rfl rfl (by decide +kernel) ⟨Nat.le_of_ble_eq_true rfl, Nat.le_of_ble_eq_true rfl⟩) ⟨z_fb0, fun U hU hW => ⟨rfl, trivial⟩⟩ rfl rfl hl.1 rfl (lv_room (Nat.le_of_ble_eq_true rfl)) dX6_traceOf_14 ⟨Nat.le_of_ble_eq_true rfl, Nat.le_of_ble_eq_true rfl⟩) (fun r14 e14 => ?_)
        subst e14
        have hx14 : sv ^^^ xv < 256 := zx8 (by omega) (by omega)
        refine lv_istore_n (lv' := [(1, .int (nI (sv ^^^ xv))), (0, .int (nI u)), (2, .int (nI xv)), (3, .int (nI i))]) hx hb dX6_traceOf_17 rfl hl (by decide) rfl (fun ls hl => ?_)
        refine lv_iload_n hx hb dX6_traceOf_18 rfl (lv_at hl 2 rfl) ?_
        refine lv_iload_n hx hb dX6_traceOf_19 rfl (lv_at hl 2 rfl) ?_
        refine z_ci (va_runS (As := [.int (nI xv), .int (nI xv)]) (rest := []) ⟨hx, hb, hml, hown, hts⟩ (c_X6_productOf_256 l D xv xv (by omega) (by omega)) (va_cwS 2 hts gX6_traceOf_X6_productOf rfl rfl rfl (by decide +kernel) ⟨Nat.le_of_ble_eq_true rfl, Nat.le_of_ble_eq_true rfl⟩) ⟨z_fb0, fun U hU hW => ⟨rfl, trivial⟩⟩ rfl rfl hl.1 rfl (lv_room (Nat.le_of_ble_eq_true rfl)) dX6_traceOf_20 ⟨Nat.le_of_ble_eq_true rfl, Nat.le_of_ble_eq_true rfl⟩) (fun r20 e20 => ?_)
        subst e20
        have hn20 : np xv xv < 256 := np_lt (by omega) (by omega)
        refine lv_istore_n (lv' := [(2, .int (nI (np xv xv))), (1, .int (nI (sv ^^^ xv))), (0, .int (nI u)), (3, .int (nI i))]) hx hb dX6_traceOf_23 rfl hl (by decide) rfl (fun ls hl => ?_)
        refine lv_iinc (v := (nI (i + 1))) (lv' := [(3, .int (nI (i + 1))), (2, .int (nI (np xv xv))), (1, .int (nI (sv ^^^ xv))), (0, .int (nI u))]) hx hb dX6_traceOf_24 hl (k := 3) rfl (z_inc i 1) (by decide) rfl (fun ls hl => ?_)
        refine lv_goto (tgt := 6) hx hb dX6_traceOf_27 (by decide) ?_
        exact ih_6 (i + 1) (sv ^^^ xv) (np xv xv) (by omega) (zx8 hsv hxv) (by omega) (by rw [← hinv, show 8 - i = (8 - (i + 1)) + 1 by omega]; rfl) (by omega) ls (lv_sub hl [3, 2, 1, 0] rfl)
  exact cut_6 ((8 - 0) + 1) 0 0 u (by omega) (by omega) (by omega) (rfl) (Nat.lt_succ_self _) ls (lv_sub hl [3, 2, 1, 0] rfl)
abbrev rm_c_X6_isNumber : Room := { frames := 0, cells := 0, slots := 0, locals := 0 }
abbrev q_c_X6_isNumber (D : va_G) (x : Int32) (n : Nat) : Array Value → State → Outcome → State → Prop := vp_Si (fun r => r = (bI (inN n x)))
set_option maxHeartbeats 4000000 in
set_option maxRecDepth 100000 in
theorem c_X6_isNumber (l : Launch) (D : va_G) (x : Int32) (n : Nat) (hn : n ≤ 2147483647) : Met l yX6_isNumber wsX6_isNumber rm_c_X6_isNumber (va_Pc [.int x, .int (nI n)] (fun _ => True)) (q_c_X6_isNumber D x n) 0 0 (fun _ => False) := by
  refine Met.ofW (cc := cX6_isNumber) (maxL := 2) (ret := (some .boolean)) (by decide) rfl ?_
  intro p e s m args below meth c s₁ B hml hv
  obtain ⟨hargs, -⟩ := hv
  have hx := B.exec
  have hb := B.bytes
  have hr := B.returns
  have hts := atoms_spec (ws := wsX6_isNumber) B.pre
  have hown : s.vm.findClass RX6 = some m.cls := findClass_of_methodNamed B.named
  have hlocks := B.notSynchronized
  have hl := lv_entry ([.int x, .int (nI n)]) (n := 2) (Nat.le_of_ble_eq_true rfl)
  refine W.eq (g2 := F0 m 0 (lg_sl ([.int x, .int (nI n)]) ++ List.replicate (2 - (lg_sl ([.int x, .int (nI n)])).length) Slot.unset).toArray []) (by rw [hargs]; exact lg_entry_eq _ _ _) ?_
  generalize (lg_sl ([.int x, .int (nI n)]) ++ List.replicate (2 - (lg_sl ([.int x, .int (nI n)])).length) Slot.unset).toArray = ls at hl ⊢
  have hl : lv_has ls 2 [(0, .int x), (1, .int (nI n))] := hl
  refine lv_iload_n hx hb dX6_isNumber_0 rfl (lv_at hl 0 rfl) ?_
  refine lv_if_lt (tgt := 13) hx hb dX6_isNumber_1 (by decide) (fun c_1 => ?_) (fun c_1 => ?_)
  · refine lv_iconst (v := nI 0) hx hb dX6_isNumber_13 zki_0 ?_
    refine zt (show nI 0 = bI false from rfl) ?_
    exact W.zret (ty := .boolean) hx hb hr (z_narB _) (fun t ht _ => ⟨_, rfl, (congrArg bI (inN_f (by first | exact Or.inl c_1 | exact Or.inr c_6)).symm), ht⟩) (fun _ h => nomatch h) dX6_isNumber_14
  · refine lv_iload_n hx hb dX6_isNumber_4 rfl (lv_at hl 0 rfl) ?_
    refine lv_iload_n hx hb dX6_isNumber_5 rfl (lv_at hl 1 rfl) ?_
    refine lv_icmp_ge (tgt := 13) hx hb dX6_isNumber_6 (by decide) (fun c_6 => ?_) (fun c_6 => ?_)
    · refine lv_iconst (v := nI 0) hx hb dX6_isNumber_13 zki_0 ?_
      refine zt (show nI 0 = bI false from rfl) ?_
      exact W.zret (ty := .boolean) hx hb hr (z_narB _) (fun t ht _ => ⟨_, rfl, (congrArg bI (inN_f (by first | exact Or.inl c_1 | exact Or.inr c_6)).symm), ht⟩) (fun _ h => nomatch h) dX6_isNumber_14
    · refine lv_iconst (v := nI 1) hx hb dX6_isNumber_9 zki_1 ?_
      refine lv_goto (tgt := 14) hx hb dX6_isNumber_10 (by decide) ?_
      refine zt (show nI 1 = bI true from rfl) ?_
      exact W.zret (ty := .boolean) hx hb hr (z_narB _) (fun t ht _ => ⟨_, rfl, (congrArg bI (inN_t c_1 c_6).symm), ht⟩) (fun _ h => nomatch h) dX6_isNumber_14
abbrev rm_c_X6_isPlace : Room := { frames := 0, cells := 0, slots := 0, locals := 0 }
abbrev q_c_X6_isPlace (D : va_G) (x : Int32) (y : Int32) : Array Value → State → Outcome → State → Prop := vp_Si (fun r => r = (bI (inN 4 x && inN 4 y)))
set_option maxHeartbeats 4000000 in
set_option maxRecDepth 100000 in
theorem c_X6_isPlace (l : Launch) (D : va_G) (x : Int32) (y : Int32) : Met l yX6_isPlace wsX6_isPlace rm_c_X6_isPlace (va_Pc [.int x, .int y] (fun _ => True)) (q_c_X6_isPlace D x y) 0 0 (fun _ => False) := by
  refine Met.ofW (cc := cX6_isPlace) (maxL := 2) (ret := (some .boolean)) (by decide) rfl ?_
  intro p e s m args below meth c s₁ B hml hv
  obtain ⟨hargs, -⟩ := hv
  have hx := B.exec
  have hb := B.bytes
  have hr := B.returns
  have hts := atoms_spec (ws := wsX6_isPlace) B.pre
  have hown : s.vm.findClass RX6 = some m.cls := findClass_of_methodNamed B.named
  have hlocks := B.notSynchronized
  have hl := lv_entry ([.int x, .int y]) (n := 2) (Nat.le_of_ble_eq_true rfl)
  refine W.eq (g2 := F0 m 0 (lg_sl ([.int x, .int y]) ++ List.replicate (2 - (lg_sl ([.int x, .int y])).length) Slot.unset).toArray []) (by rw [hargs]; exact lg_entry_eq _ _ _) ?_
  generalize (lg_sl ([.int x, .int y]) ++ List.replicate (2 - (lg_sl ([.int x, .int y])).length) Slot.unset).toArray = ls at hl ⊢
  have hl : lv_has ls 2 [(0, .int x), (1, .int y)] := hl
  refine lv_iload_n hx hb dX6_isPlace_0 rfl (lv_at hl 0 rfl) ?_
  refine lv_if_lt (tgt := 22) hx hb dX6_isPlace_1 (by decide) (fun c_1 => ?_) (fun c_1 => ?_)
  · refine lv_iconst (v := nI 0) hx hb dX6_isPlace_22 zki_0 ?_
    refine zt (show nI 0 = bI false from rfl) ?_
    exact W.zret (ty := .boolean) hx hb hr (z_narB _) (fun t ht _ => ⟨_, rfl, (congrArg bI (pl_f (by first | exact Or.inl c_1 | exact Or.inr (Or.inl c_6) | exact Or.inr (Or.inr (Or.inl c_10)) | exact Or.inr (Or.inr (Or.inr c_15)))).symm), ht⟩) (fun _ h => nomatch h) dX6_isPlace_23
  · refine lv_iload_n hx hb dX6_isPlace_4 rfl (lv_at hl 0 rfl) ?_
    refine lv_iconst (v := nI 4) hx hb dX6_isPlace_5 zki_4 ?_
    refine lv_icmp_ge (tgt := 22) hx hb dX6_isPlace_6 (by decide) (fun c_6 => ?_) (fun c_6 => ?_)
    · refine lv_iconst (v := nI 0) hx hb dX6_isPlace_22 zki_0 ?_
      refine zt (show nI 0 = bI false from rfl) ?_
      exact W.zret (ty := .boolean) hx hb hr (z_narB _) (fun t ht _ => ⟨_, rfl, (congrArg bI (pl_f (by first | exact Or.inl c_1 | exact Or.inr (Or.inl c_6) | exact Or.inr (Or.inr (Or.inl c_10)) | exact Or.inr (Or.inr (Or.inr c_15)))).symm), ht⟩) (fun _ h => nomatch h) dX6_isPlace_23
    · refine lv_iload_n hx hb dX6_isPlace_9 rfl (lv_at hl 1 rfl) ?_
      refine lv_if_lt (tgt := 22) hx hb dX6_isPlace_10 (by decide) (fun c_10 => ?_) (fun c_10 => ?_)
      · refine lv_iconst (v := nI 0) hx hb dX6_isPlace_22 zki_0 ?_
        refine zt (show nI 0 = bI false from rfl) ?_
        exact W.zret (ty := .boolean) hx hb hr (z_narB _) (fun t ht _ => ⟨_, rfl, (congrArg bI (pl_f (by first | exact Or.inl c_1 | exact Or.inr (Or.inl c_6) | exact Or.inr (Or.inr (Or.inl c_10)) | exact Or.inr (Or.inr (Or.inr c_15)))).symm), ht⟩) (fun _ h => nomatch h) dX6_isPlace_23
      · refine lv_iload_n hx hb dX6_isPlace_13 rfl (lv_at hl 1 rfl) ?_
        refine lv_iconst (v := nI 4) hx hb dX6_isPlace_14 zki_4 ?_
        refine lv_icmp_ge (tgt := 22) hx hb dX6_isPlace_15 (by decide) (fun c_15 => ?_) (fun c_15 => ?_)
        · refine lv_iconst (v := nI 0) hx hb dX6_isPlace_22 zki_0 ?_
          refine zt (show nI 0 = bI false from rfl) ?_
          exact W.zret (ty := .boolean) hx hb hr (z_narB _) (fun t ht _ => ⟨_, rfl, (congrArg bI (pl_f (by first | exact Or.inl c_1 | exact Or.inr (Or.inl c_6) | exact Or.inr (Or.inr (Or.inl c_10)) | exact Or.inr (Or.inr (Or.inr c_15)))).symm), ht⟩) (fun _ h => nomatch h) dX6_isPlace_23
        · refine lv_iconst (v := nI 1) hx hb dX6_isPlace_18 zki_1 ?_
          refine lv_goto (tgt := 23) hx hb dX6_isPlace_19 (by decide) ?_
          refine zt (show nI 1 = bI true from rfl) ?_
          exact W.zret (ty := .boolean) hx hb hr (z_narB _) (fun t ht _ => ⟨_, rfl, (congrArg bI (pl_t c_1 c_6 c_10 c_15).symm), ht⟩) (fun _ h => nomatch h) dX6_isPlace_23
abbrev rm_c_X6_isRegister : Room := { frames := 0, cells := 0, slots := 0, locals := 0 }
abbrev q_c_X6_isRegister (D : va_G) (x : Int32) : Array Value → State → Outcome → State → Prop := vp_Si (fun r => r = (bI (inN 8 x)))
set_option maxHeartbeats 4000000 in
set_option maxRecDepth 100000 in
theorem c_X6_isRegister (l : Launch) (D : va_G) (x : Int32) : Met l yX6_isRegister wsX6_isRegister rm_c_X6_isRegister (va_Pc [.int x] (fun _ => True)) (q_c_X6_isRegister D x) 0 0 (fun _ => False) := by
  refine Met.ofW (cc := cX6_isRegister) (maxL := 1) (ret := (some .boolean)) (by decide) rfl ?_
  intro p e s m args below meth c s₁ B hml hv
  obtain ⟨hargs, -⟩ := hv
  have hx := B.exec
  have hb := B.bytes
  have hr := B.returns
  have hts := atoms_spec (ws := wsX6_isRegister) B.pre
  have hown : s.vm.findClass RX6 = some m.cls := findClass_of_methodNamed B.named
  have hlocks := B.notSynchronized
  have hl := lv_entry ([.int x]) (n := 1) (Nat.le_of_ble_eq_true rfl)
  refine W.eq (g2 := F0 m 0 (lg_sl ([.int x]) ++ List.replicate (1 - (lg_sl ([.int x])).length) Slot.unset).toArray []) (by rw [hargs]; exact lg_entry_eq _ _ _) ?_
  generalize (lg_sl ([.int x]) ++ List.replicate (1 - (lg_sl ([.int x])).length) Slot.unset).toArray = ls at hl ⊢
  have hl : lv_has ls 1 [(0, .int x)] := hl
  refine lv_iload_n hx hb dX6_isRegister_0 rfl (lv_at hl 0 rfl) ?_
  refine lv_if_lt (tgt := 14) hx hb dX6_isRegister_1 (by decide) (fun c_1 => ?_) (fun c_1 => ?_)
  · refine lv_iconst (v := nI 0) hx hb dX6_isRegister_14 zki_0 ?_
    refine zt (show nI 0 = bI false from rfl) ?_
    exact W.zret (ty := .boolean) hx hb hr (z_narB _) (fun t ht _ => ⟨_, rfl, (congrArg bI (inN_f (by first | exact Or.inl c_1 | exact Or.inr c_7)).symm), ht⟩) (fun _ h => nomatch h) dX6_isRegister_15
  · refine lv_iload_n hx hb dX6_isRegister_4 rfl (lv_at hl 0 rfl) ?_
    refine lv_bipush (v := nI 8) hx hb dX6_isRegister_5 zkb_8 ?_
    refine lv_icmp_ge (tgt := 14) hx hb dX6_isRegister_7 (by decide) (fun c_7 => ?_) (fun c_7 => ?_)
    · refine lv_iconst (v := nI 0) hx hb dX6_isRegister_14 zki_0 ?_
      refine zt (show nI 0 = bI false from rfl) ?_
      exact W.zret (ty := .boolean) hx hb hr (z_narB _) (fun t ht _ => ⟨_, rfl, (congrArg bI (inN_f (by first | exact Or.inl c_1 | exact Or.inr c_7)).symm), ht⟩) (fun _ h => nomatch h) dX6_isRegister_15
    · refine lv_iconst (v := nI 1) hx hb dX6_isRegister_10 zki_1 ?_
      refine lv_goto (tgt := 15) hx hb dX6_isRegister_11 (by decide) ?_
      refine zt (show nI 1 = bI true from rfl) ?_
      exact W.zret (ty := .boolean) hx hb hr (z_narB _) (fun t ht _ => ⟨_, rfl, (congrArg bI (inN_t c_1 c_7).symm), ht⟩) (fun _ h => nomatch h) dX6_isRegister_15
abbrev rm_c_X6_leastOutOf_17 : Room := { frames := 0, cells := 0, slots := 0, locals := 0 }
abbrev q_c_X6_leastOutOf_17 (D : va_G) (h : Nat) (cZ : ClassId) (f : Nat → Bool) : Array Value → State → Outcome → State → Prop := vp_Si (fun r => r = (nI (lo f 17)))
set_option maxHeartbeats 4000000 in
set_option maxRecDepth 100000 in
theorem c_X6_leastOutOf_17 (l : Launch) (D : va_G) (h : Nat) (cZ : ClassId) (f : Nat → Bool) : Met l yX6_leastOutOf wsX6_leastOutOf rm_c_X6_leastOutOf_17 (va_Pc [.ref h] (fun U => va_P D vwCl [(h, .inl (cZ, 17, .inl (aB f)))] U.heap ∧ va_K D vwCl [(cZ, .boolean)] U)) (q_c_X6_leastOutOf_17 D h cZ f) 0 0 (fun _ => False) := by
  refine Met.ofW (cc := cX6_leastOutOf) (maxL := 2) (ret := (some .int)) (by decide) rfl ?_
  intro p e s m args below meth c s₁ B hml hv
  obtain ⟨hargs, hP, hK⟩ := hv
  have hx := B.exec
  have hb := B.bytes
  have hr := B.returns
  have hts := atoms_spec (ws := wsX6_leastOutOf) B.pre
  have hown : s.vm.findClass RX6 = some m.cls := findClass_of_methodNamed B.named
  have hlocks := B.notSynchronized
  have hl := lv_entry ([.ref h]) (n := 2) (Nat.le_of_ble_eq_true rfl)
  refine W.eq (g2 := F0 m 0 (lg_sl ([.ref h]) ++ List.replicate (2 - (lg_sl ([.ref h])).length) Slot.unset).toArray []) (by rw [hargs]; exact lg_entry_eq _ _ _) ?_
  generalize (lg_sl ([.ref h]) ++ List.replicate (2 - (lg_sl ([.ref h])).length) Slot.unset).toArray = ls at hl ⊢
  have hl : lv_has ls 2 [(0, .ref h)] := hl
  refine lv_iconst (v := nI 0) hx hb dX6_leastOutOf_0 zki_0 ?_
  refine lv_istore_n (lv' := [(1, .int (nI 0)), (0, .ref h)]) hx hb dX6_leastOutOf_1 rfl hl (by decide) rfl (fun ls hl => ?_)
  have cut_2 : ∀ (nn9 : Nat) (i : Nat) (hi : i ≤ 17) (hall : ∀ k, k < i → f k = true) (hn9 : 17 - i < nn9) (ls : Array Slot) (hl : lv_has ls 2 [(0, .ref h), (1, .int (nI i))]), W p l e (headSpec wsX6_leastOutOf rm_c_X6_leastOutOf_17).room s m args below meth c s.heap [] 0 0 (MQ below (q_c_X6_leastOutOf_17 D h cZ f) args s 0 0 (fun _ => False)) (F0 m 2 ls []) := by
    intro nn9
    induction nn9 with
    | zero => intro i hi hall hn9; exact absurd hn9 (Nat.not_lt_zero _)
    | succ nn9 ih_2 =>
      intro i hi hall hn9 ls hl
      refine lv_iload_n hx hb dX6_leastOutOf_2 rfl (lv_at hl 1 rfl) ?_
      refine lv_aload_n hx hb dX6_leastOutOf_3 rfl (lv_at hl 0 rfl) ?_
      refine va_alen (v := nI 17) hx hb hK hP 0 0 rfl rfl rfl dX6_leastOutOf_4 ?_
      refine z_cge (tgt := 20) hx hb (by omega) (by omega) dX6_leastOutOf_5 (by decide) (fun c_5 => ?_) (fun c_5 => ?_)
      · refine lv_iload_n hx hb dX6_leastOutOf_20 rfl (lv_at hl 1 rfl) ?_
        exact W.iret hx hb hr (fun t ht _ => ⟨_, rfl, (congrArg nI (lo_eq hi hall (fun q => by first | omega | exact c_11)).symm), ht⟩) (fun _ h => nomatch h) dX6_leastOutOf_21
      · refine lv_aload_n hx hb dX6_leastOutOf_8 rfl (lv_at hl 0 rfl) ?_
        refine lv_iload_n hx hb dX6_leastOutOf_9 rfl (lv_at hl 1 rfl) ?_
        refine z_zald hx hb hK hP 0 0 rfl rfl (by omega) (by decide) dX6_leastOutOf_10 ?_
        refine z_beq (tgt := 20) hx hb dX6_leastOutOf_11 (by decide) (fun c_11 => ?_) (fun c_11 => ?_)
        · refine lv_iload_n hx hb dX6_leastOutOf_20 rfl (lv_at hl 1 rfl) ?_
          exact W.iret hx hb hr (fun t ht _ => ⟨_, rfl, (congrArg nI (lo_eq hi hall (fun q => by first | omega | exact c_11)).symm), ht⟩) (fun _ h => nomatch h) dX6_leastOutOf_21
        · refine lv_iinc (v := (nI (i + 1))) (lv' := [(1, .int (nI (i + 1))), (0, .ref h)]) hx hb dX6_leastOutOf_14 hl (k := 1) rfl (z_inc i 1) (by decide) rfl (fun ls hl => ?_)
          refine lv_goto (tgt := 2) hx hb dX6_leastOutOf_17 (by decide) ?_
          exact ih_2 (i + 1) (by omega) (fun k hk => (Nat.lt_or_ge k i).elim (hall k) (fun q => by rw [show k = i by omega]; exact c_11)) (by omega) ls (lv_sub hl [1, 0] rfl)
  exact cut_2 ((17 - 0) + 1) 0 (by omega) (fun k hk => absurd hk (Nat.not_lt_zero k)) (Nat.lt_succ_self _) ls (lv_sub hl [1, 0] rfl)
abbrev rm_c_X6_leastOutOf_40 : Room := { frames := 0, cells := 0, slots := 0, locals := 0 }
abbrev q_c_X6_leastOutOf_40 (D : va_G) (h : Nat) (cZ : ClassId) (f : Nat → Bool) : Array Value → State → Outcome → State → Prop := vp_Si (fun r => r = (nI (lo f 40)))
set_option maxHeartbeats 4000000 in
set_option maxRecDepth 100000 in
theorem c_X6_leastOutOf_40 (l : Launch) (D : va_G) (h : Nat) (cZ : ClassId) (f : Nat → Bool) : Met l yX6_leastOutOf wsX6_leastOutOf rm_c_X6_leastOutOf_40 (va_Pc [.ref h] (fun U => va_P D vwCl [(h, .inl (cZ, 40, .inl (aB f)))] U.heap ∧ va_K D vwCl [(cZ, .boolean)] U)) (q_c_X6_leastOutOf_40 D h cZ f) 0 0 (fun _ => False) := by
  refine Met.ofW (cc := cX6_leastOutOf) (maxL := 2) (ret := (some .int)) (by decide) rfl ?_
  intro p e s m args below meth c s₁ B hml hv
  obtain ⟨hargs, hP, hK⟩ := hv
  have hx := B.exec
  have hb := B.bytes
  have hr := B.returns
  have hts := atoms_spec (ws := wsX6_leastOutOf) B.pre
  have hown : s.vm.findClass RX6 = some m.cls := findClass_of_methodNamed B.named
  have hlocks := B.notSynchronized
  have hl := lv_entry ([.ref h]) (n := 2) (Nat.le_of_ble_eq_true rfl)
  refine W.eq (g2 := F0 m 0 (lg_sl ([.ref h]) ++ List.replicate (2 - (lg_sl ([.ref h])).length) Slot.unset).toArray []) (by rw [hargs]; exact lg_entry_eq _ _ _) ?_
  generalize (lg_sl ([.ref h]) ++ List.replicate (2 - (lg_sl ([.ref h])).length) Slot.unset).toArray = ls at hl ⊢
  have hl : lv_has ls 2 [(0, .ref h)] := hl
  refine lv_iconst (v := nI 0) hx hb dX6_leastOutOf_0 zki_0 ?_
  refine lv_istore_n (lv' := [(1, .int (nI 0)), (0, .ref h)]) hx hb dX6_leastOutOf_1 rfl hl (by decide) rfl (fun ls hl => ?_)
  have cut_2 : ∀ (nn9 : Nat) (i : Nat) (hi : i ≤ 40) (hall : ∀ k, k < i → f k = true) (hn9 : 40 - i < nn9) (ls : Array Slot) (hl : lv_has ls 2 [(0, .ref h), (1, .int (nI i))]), W p l e (headSpec wsX6_leastOutOf rm_c_X6_leastOutOf_40).room s m args below meth c s.heap [] 0 0 (MQ below (q_c_X6_leastOutOf_40 D h cZ f) args s 0 0 (fun _ => False)) (F0 m 2 ls []) := by
    intro nn9
    induction nn9 with
    | zero => intro i hi hall hn9; exact absurd hn9 (Nat.not_lt_zero _)
    | succ nn9 ih_2 =>
      intro i hi hall hn9 ls hl
      refine lv_iload_n hx hb dX6_leastOutOf_2 rfl (lv_at hl 1 rfl) ?_
      refine lv_aload_n hx hb dX6_leastOutOf_3 rfl (lv_at hl 0 rfl) ?_
      refine va_alen (v := nI 40) hx hb hK hP 0 0 rfl rfl rfl dX6_leastOutOf_4 ?_
      refine z_cge (tgt := 20) hx hb (by omega) (by omega) dX6_leastOutOf_5 (by decide) (fun c_5 => ?_) (fun c_5 => ?_)
      · refine lv_iload_n hx hb dX6_leastOutOf_20 rfl (lv_at hl 1 rfl) ?_
        exact W.iret hx hb hr (fun t ht _ => ⟨_, rfl, (congrArg nI (lo_eq hi hall (fun q => by first | omega | exact c_11)).symm), ht⟩) (fun _ h => nomatch h) dX6_leastOutOf_21
      · refine lv_aload_n hx hb dX6_leastOutOf_8 rfl (lv_at hl 0 rfl) ?_
        refine lv_iload_n hx hb dX6_leastOutOf_9 rfl (lv_at hl 1 rfl) ?_
        refine z_zald hx hb hK hP 0 0 rfl rfl (by omega) (by decide) dX6_leastOutOf_10 ?_
        refine z_beq (tgt := 20) hx hb dX6_leastOutOf_11 (by decide) (fun c_11 => ?_) (fun c_11 => ?_)
        · refine lv_iload_n hx hb dX6_leastOutOf_20 rfl (lv_at hl 1 rfl) ?_
          exact W.iret hx hb hr (fun t ht _ => ⟨_, rfl, (congrArg nI (lo_eq hi hall (fun q => by first | omega | exact c_11)).symm), ht⟩) (fun _ h => nomatch h) dX6_leastOutOf_21
        · refine lv_iinc (v := (nI (i + 1))) (lv' := [(1, .int (nI (i + 1))), (0, .ref h)]) hx hb dX6_leastOutOf_14 hl (k := 1) rfl (z_inc i 1) (by decide) rfl (fun ls hl => ?_)
          refine lv_goto (tgt := 2) hx hb dX6_leastOutOf_17 (by decide) ?_
          exact ih_2 (i + 1) (by omega) (fun k hk => (Nat.lt_or_ge k i).elim (hall k) (fun q => by rw [show k = i by omega]; exact c_11)) (by omega) ls (lv_sub hl [1, 0] rfl)
  exact cut_2 ((40 - 0) + 1) 0 (by omega) (fun k hk => absurd hk (Nat.not_lt_zero k)) (Nat.lt_succ_self _) ls (lv_sub hl [1, 0] rfl)
abbrev rm_c_X6_leastOutOf_256 : Room := { frames := 0, cells := 0, slots := 0, locals := 0 }
abbrev q_c_X6_leastOutOf_256 (D : va_G) (h : Nat) (cZ : ClassId) (f : Nat → Bool) : Array Value → State → Outcome → State → Prop := vp_Si (fun r => r = (nI (lo f 256)))
set_option maxHeartbeats 4000000 in
set_option maxRecDepth 100000 in
theorem c_X6_leastOutOf_256 (l : Launch) (D : va_G) (h : Nat) (cZ : ClassId) (f : Nat → Bool) : Met l yX6_leastOutOf wsX6_leastOutOf rm_c_X6_leastOutOf_256 (va_Pc [.ref h] (fun U => va_P D vwCl [(h, .inl (cZ, 256, .inl (aB f)))] U.heap ∧ va_K D vwCl [(cZ, .boolean)] U)) (q_c_X6_leastOutOf_256 D h cZ f) 0 0 (fun _ => False) := by
  refine Met.ofW (cc := cX6_leastOutOf) (maxL := 2) (ret := (some .int)) (by decide) rfl ?_
  intro p e s m args below meth c s₁ B hml hv
  obtain ⟨hargs, hP, hK⟩ := hv
  have hx := B.exec
  have hb := B.bytes
  have hr := B.returns
  have hts := atoms_spec (ws := wsX6_leastOutOf) B.pre
  have hown : s.vm.findClass RX6 = some m.cls := findClass_of_methodNamed B.named
  have hlocks := B.notSynchronized
  have hl := lv_entry ([.ref h]) (n := 2) (Nat.le_of_ble_eq_true rfl)
  refine W.eq (g2 := F0 m 0 (lg_sl ([.ref h]) ++ List.replicate (2 - (lg_sl ([.ref h])).length) Slot.unset).toArray []) (by rw [hargs]; exact lg_entry_eq _ _ _) ?_
  generalize (lg_sl ([.ref h]) ++ List.replicate (2 - (lg_sl ([.ref h])).length) Slot.unset).toArray = ls at hl ⊢
  have hl : lv_has ls 2 [(0, .ref h)] := hl
  refine lv_iconst (v := nI 0) hx hb dX6_leastOutOf_0 zki_0 ?_
  refine lv_istore_n (lv' := [(1, .int (nI 0)), (0, .ref h)]) hx hb dX6_leastOutOf_1 rfl hl (by decide) rfl (fun ls hl => ?_)
  have cut_2 : ∀ (nn9 : Nat) (i : Nat) (hi : i ≤ 256) (hall : ∀ k, k < i → f k = true) (hn9 : 256 - i < nn9) (ls : Array Slot) (hl : lv_has ls 2 [(0, .ref h), (1, .int (nI i))]), W p l e (headSpec wsX6_leastOutOf rm_c_X6_leastOutOf_256).room s m args below meth c s.heap [] 0 0 (MQ below (q_c_X6_leastOutOf_256 D h cZ f) args s 0 0 (fun _ => False)) (F0 m 2 ls []) := by
    intro nn9
    induction nn9 with
    | zero => intro i hi hall hn9; exact absurd hn9 (Nat.not_lt_zero _)
    | succ nn9 ih_2 =>
      intro i hi hall hn9 ls hl
      refine lv_iload_n hx hb dX6_leastOutOf_2 rfl (lv_at hl 1 rfl) ?_
      refine lv_aload_n hx hb dX6_leastOutOf_3 rfl (lv_at hl 0 rfl) ?_
      refine va_alen (v := nI 256) hx hb hK hP 0 0 rfl rfl rfl dX6_leastOutOf_4 ?_
      refine z_cge (tgt := 20) hx hb (by omega) (by omega) dX6_leastOutOf_5 (by decide) (fun c_5 => ?_) (fun c_5 => ?_)
      · refine lv_iload_n hx hb dX6_leastOutOf_20 rfl (lv_at hl 1 rfl) ?_
        exact W.iret hx hb hr (fun t ht _ => ⟨_, rfl, (congrArg nI (lo_eq hi hall (fun q => by first | omega | exact c_11)).symm), ht⟩) (fun _ h => nomatch h) dX6_leastOutOf_21
      · refine lv_aload_n hx hb dX6_leastOutOf_8 rfl (lv_at hl 0 rfl) ?_
        refine lv_iload_n hx hb dX6_leastOutOf_9 rfl (lv_at hl 1 rfl) ?_
        refine z_zald hx hb hK hP 0 0 rfl rfl (by omega) (by decide) dX6_leastOutOf_10 ?_
        refine z_beq (tgt := 20) hx hb dX6_leastOutOf_11 (by decide) (fun c_11 => ?_) (fun c_11 => ?_)
        · refine lv_iload_n hx hb dX6_leastOutOf_20 rfl (lv_at hl 1 rfl) ?_
          exact W.iret hx hb hr (fun t ht _ => ⟨_, rfl, (congrArg nI (lo_eq hi hall (fun q => by first | omega | exact c_11)).symm), ht⟩) (fun _ h => nomatch h) dX6_leastOutOf_21
        · refine lv_iinc (v := (nI (i + 1))) (lv' := [(1, .int (nI (i + 1))), (0, .ref h)]) hx hb dX6_leastOutOf_14 hl (k := 1) rfl (z_inc i 1) (by decide) rfl (fun ls hl => ?_)
          refine lv_goto (tgt := 2) hx hb dX6_leastOutOf_17 (by decide) ?_
          exact ih_2 (i + 1) (by omega) (fun k hk => (Nat.lt_or_ge k i).elim (hall k) (fun q => by rw [show k = i by omega]; exact c_11)) (by omega) ls (lv_sub hl [1, 0] rfl)
  exact cut_2 ((256 - 0) + 1) 0 (by omega) (fun k hk => absurd hk (Nat.not_lt_zero k)) (Nat.lt_succ_self _) ls (lv_sub hl [1, 0] rfl)
