theorem zkb_7 : (Int8.ofInt (7)).toInt32 = nI 7 := by decide +kernel
theorem zkb_8 : (Int8.ofInt (8)).toInt32 = nI 8 := by decide +kernel
theorem zkb_9 : (Int8.ofInt (9)).toInt32 = nI 9 := by decide +kernel
theorem zkb_13 : (Int8.ofInt (13)).toInt32 = nI 13 := by decide +kernel
theorem zkb_15 : (Int8.ofInt (15)).toInt32 = nI 15 := by decide +kernel
theorem zkb_16 : (Int8.ofInt (16)).toInt32 = nI 16 := by decide +kernel
theorem zkb_17 : (Int8.ofInt (17)).toInt32 = nI 17 := by decide +kernel
theorem zkb_40 : (Int8.ofInt (40)).toInt32 = nI 40 := by decide +kernel
theorem zkb_63 : (Int8.ofInt (63)).toInt32 = nI 63 := by decide +kernel
theorem zkb_64 : (Int8.ofInt (64)).toInt32 = nI 64 := by decide +kernel
theorem zki_m1 : Int32.ofInt (-1) = (-1) := by decide +kernel
theorem zki_0 : Int32.ofInt (0) = nI 0 := by decide +kernel
theorem zki_1 : Int32.ofInt (1) = nI 1 := by decide +kernel
theorem zki_2 : Int32.ofInt (2) = nI 2 := by decide +kernel
theorem zki_3 : Int32.ofInt (3) = nI 3 := by decide +kernel
theorem zki_4 : Int32.ofInt (4) = nI 4 := by decide +kernel
theorem zki_5 : Int32.ofInt (5) = nI 5 := by decide +kernel
theorem zks_128 : (Int16.ofInt (128)).toInt32 = nI 128 := by decide +kernel
theorem zks_254 : (Int16.ofInt (254)).toInt32 = nI 254 := by decide +kernel
theorem zks_255 : (Int16.ofInt (255)).toInt32 = nI 255 := by decide +kernel
theorem zks_256 : (Int16.ofInt (256)).toInt32 = nI 256 := by decide +kernel
theorem zks_512 : (Int16.ofInt (512)).toInt32 = nI 512 := by decide +kernel
theorem z_inc (a k : Nat) : nI a + Int32.ofInt (k : Int) = nI (a + k) := by
  have h : Int32.ofInt (k : Int) = nI k := by
    apply Int32.toBitVec_inj.1
    show BitVec.ofInt 32 (k : Int) = BitVec.ofNat 32 k
    exact BitVec.ofInt_natCast 32 k
  rw [h, nI_add]
theorem z_narB (b : Bool) : narrow .boolean (.int (bI b)) = .int (bI b) := by cases b <;> rfl
theorem z_min {a b : Nat} (ha : a < 2147483648) (hb : b < 2147483648) : (if nI b < nI a then nI b else nI a) = nI (min a b) := by
  by_cases h : b < a
  · rw [if_pos ((z_nlt hb ha).mpr h)]; congr 1; omega
  · rw [if_neg (fun q => h ((z_nlt hb ha).mp q))]; congr 1; omega
theorem z_room {a b c : Nat} (h : b = c) (h2 : a ≤ c) : a ≤ b := by omega
section ZR2
variable {p : Program} {l : Launch} {e : Env} {R : Room} {s : State} {m : MethodId} {args : Array Value} {below : List Frame} {meth : Method} {c : Code} {H : Heap} {locs : List Loc} {cells slots : Nat} {Q : State → Prop} {cc : ByteArray} {pc : Nat} {ls : Array Slot} {rest : List Value}
variable {D : va_G} {cl : List vw_C} {tys : List (ClassId × FieldType)} {ws : va_W} {A : Nat → Prop} {H0 : Heap} {a : Nat}
theorem z_lald (hx : p.tables.exec = Jvm.exec) (hb : c.code = cc) (hK : va_K D cl tys s) (hP : va_P D cl ws H) (q0 t0 : Nat) {cA : ClassId} {n : Nat} {f : Nat → Int64} (ha : ws[q0]? = some (a, .inl (cA, n, .inr (.inl f)))) (ht : tys[t0]? = some (cA, .long)) {i : Nat} (hi : i < n) (hn : n < 2147483648) (hdg : decode cc pc = .ok (.laload, 1)) (kk : W p l e R s m args below meth c H locs cells slots Q (F0 m (pc + 1) ls (.long (f i) :: rest))) : W p l e R s m args below meth c H locs cells slots Q (F0 m pc ls (.int (nI i) :: .ref a :: rest)) :=
  va_lald hx hb hK hP q0 t0 ha ht (vp_in_nI hi hn) hdg (by rw [nI_clamp (by omega)]; exact kk)
theorem z_last (hx : p.tables.exec = Jvm.exec) (hb : c.code = cc) (hK : va_K D cl tys s) (hP : va_P D cl ws H) (hD : va_D A ws) (hS : va_S A H0 H locs) (q0 t0 : Nat) {cA : ClassId} {n : Nat} {f : Nat → Int64} (ha : ws[q0]? = some (a, .inl (cA, n, .inr (.inl f)))) (ht : tys[t0]? = some (cA, .long)) {i : Nat} {x : Int64} (hi : i < n) (hn : n < 2147483648) (hdg : decode cc pc = .ok (.lastore, 1))
    (kk : ∀ (H1 : Heap) (locs1 : List Loc), va_P D cl (ws.set q0 (a, .inl (cA, n, .inr (.inl (va_up f i x))))) H1 → va_D A (ws.set q0 (a, .inl (cA, n, .inr (.inl (va_up f i x))))) → va_S A H0 H1 locs1 → W p l e R s m args below meth c H1 locs1 cells slots Q (F0 m (pc + 1) ls rest)) : W p l e R s m args below meth c H locs cells slots Q (F0 m pc ls (.long x :: .int (nI i) :: .ref a :: rest)) :=
  va_last hx hb hK hP hD hS q0 t0 ha ht (vp_in_nI hi hn) hdg (fun H1 locs1 h1 h2 h3 => by
    have e9 : vp_updL f (nI i).toNatClampNeg x = va_up f i x := by rw [nI_clamp (by omega)]; rfl
    rw [e9] at h1 h2
    exact kk H1 locs1 h1 h2 h3)
/-- an array's picture, said anew below its length -/
theorem z_recell {k : Nat} {cA : ClassId} {n : Nat} {f g : Nat → Bool} (hP : va_P D cl ws H) (hk : ws[k]? = some (a, .inl (cA, n, .inl (aB f)))) (h : ∀ j, j < n → f j = g j) : va_P D cl (ws.set k (a, .inl (cA, n, .inl (aB g)))) H := by
  intro i q hq
  rcases Nat.lt_or_ge i ws.length with hl | hl
  · by_cases hi : i = k
    · subst hi
      rw [List.getElem?_set_self hl] at hq
      cases hq
      have h1 := hP i _ hk
      show H[a]? = _
      rw [show H[a]? = some (vp_cell cA (n, .inl (aB f))) from h1]
      congr 1
      show arrV cA n (fun j => Value.int (aB f j)) = arrV cA n (fun j => Value.int (aB g j))
      unfold arrV
      congr 2
      funext j
      show Value.int (aB f j.val) = Value.int (aB g j.val)
      rw [aB, aB, h j.val j.isLt]
    · rw [List.getElem?_set_ne (fun q => hi q.symm)] at hq
      exact hP i q hq
  · rw [List.getElem?_eq_none (by rw [List.length_set]; exact hl)] at hq
    cases hq
theorem z_reD {k : Nat} {cA : ClassId} {n : Nat} {f g : Nat → Bool} (hD : va_D A ws) (hk : ws[k]? = some (a, .inl (cA, n, .inl (aB f)))) : va_D A (ws.set k (a, .inl (cA, n, .inl (aB g)))) := hD.set hk
end ZR2
def inB (x : Int32) : Bool := decide (¬ x < 0 ∧ ¬ nI 256 ≤ x)
theorem inB_t {x : Int32} (h : ¬ x < 0) (h2 : ¬ nI 256 ≤ x) : inB x = true := decide_eq_true ⟨h, h2⟩
theorem inB_f {x : Int32} (h : x < 0 ∨ nI 256 ≤ x) : inB x = false := decide_eq_false (fun q => h.elim q.1 q.2)
theorem inB_of {x : Int32} (h : inB x = true) : ∃ j : Nat, j < 256 ∧ x = nI j := by
  have h1 := of_decide_eq_true h
  rcases z_rng x (n := 256) (by decide) with q | q | q
  · exact q
  · exact absurd q h1.1
  · exact absurd q h1.2
theorem inB_n {n : Nat} (h : n < 256) : inB (nI n) = true := inB_t (z_npos (by omega)) (fun q => by have := (z_nle (by decide) (by omega)).mp q; omega)
def ixB (f : Nat → Bool) (x : Int32) : Bool := inB x && f x.toNatClampNeg
theorem ixB_n {f : Nat → Bool} {n : Nat} (h : n < 256) : ixB f (nI n) = f n := by rw [ixB, inB_n h, nI_clamp (by omega), Bool.true_and]
theorem ixB_f {f : Nat → Bool} {x : Int32} (h : inB x = false) : ixB f x = false := by rw [ixB, h, Bool.false_and]
theorem ixB_of {f : Nat → Bool} {x : Int32} (h : ixB f x = true) : ∃ j : Nat, j < 256 ∧ x = nI j := by
  rw [ixB, Bool.and_eq_true] at h
  exact inB_of h.1
def rmB (f : Nat → Bool) (x : Int32) : Nat → Bool := if ixB f x = true then va_up f x.toNatClampNeg false else f
theorem rmB_f {f : Nat → Bool} {x : Int32} (h : ixB f x = false) : rmB f x = f := by rw [rmB, h]; rfl
theorem rmB_t {f : Nat → Bool} {n : Nat} (hn : n < 256) (h : ixB f (nI n) = true) : rmB f (nI n) = va_up f n false := by rw [rmB, if_pos h, nI_clamp (by omega)]
theorem nbk_up {f : Nat → Bool} {x : Int32} {i n k : Nat} (h : nbk f x i = some n) (hk : i ≤ k) : nbk f x k = some n := by
  induction k with
  | zero => have : i = 0 := by omega
            subst this; exact h
  | succ k ih =>
    rcases Nat.lt_or_ge i (k + 1) with q | q
    · have := ih (by omega)
      rw [nbk, this]; rfl
    · have : i = k + 1 := by omega
      subst this; exact h
theorem z_fb2x {av : List Value} {sz : Nat} {B : Nat → Prop} {D : va_G} {cl : List vw_C} {tys : List (ClassId × FieldType)} {ws : va_W} {E : State → Prop} (hE : ∀ (U : State) (g : JFrame) (mk : MethodId) (a : Array Value), E U → E (U.calling g mk a)) : FrameBlind (va_Pc av (fun U => U.heap.size = sz ∧ va_P D cl ws U.heap ∧ va_K D cl tys U ∧ va_D B ws ∧ E U)) := fun a U g mk q => by
  obtain ⟨q0, q1, qP, qK, qD, qE⟩ := q
  exact ⟨q0, q1, qP, va_K.moved (u := U) (U := U.calling g mk a) (Vm.Alike.refl U.vm) qK, qD, hE _ _ _ _ qE⟩
theorem z_fb1x {av : List Value} {D : va_G} {cl : List vw_C} {tys : List (ClassId × FieldType)} {ws : va_W} {E : State → Prop} (hE : ∀ (U : State) (g : JFrame) (mk : MethodId) (a : Array Value), E U → E (U.calling g mk a)) : FrameBlind (va_Pc av (fun U => va_P D cl ws U.heap ∧ va_K D cl tys U ∧ E U)) := fun a U g mk q => by
  obtain ⟨q0, qP, qK, qE⟩ := q
  exact ⟨q0, qP, va_K.moved (u := U) (U := U.calling g mk a) (Vm.Alike.refl U.vm) qK, hE _ _ _ _ qE⟩
/-- a truth, whatever decides it -/
noncomputable def dB (P : Prop) : Bool := @decide P (Classical.propDecidable P)
theorem dB_t {P : Prop} (h : P) : dB P = true := @decide_eq_true P (Classical.propDecidable P) h
theorem dB_f {P : Prop} (h : ¬ P) : dB P = false := @decide_eq_false P (Classical.propDecidable P) h
theorem dB_of {P : Prop} (h : dB P = true) : P := @of_decide_eq_true P (Classical.propDecidable P) h
theorem dB_no {P : Prop} (h : dB P = false) : ¬ P := @of_decide_eq_false P (Classical.propDecidable P) h
theorem dB_iff {P Q : Prop} (h : P ↔ Q) : dB P = dB Q := by rw [propext h]
/-- the table of the class -/
def ztb : Nat → Nat := fun k => np (k / 16) (k % 16)
def fillT (k : Nat) : Nat → Nat := fun j => if j < k then ztb j else 0
def ztab : Nat → Nat := fillT 256
def npT (f : Nat → Nat) (a b : Nat) : Nat := if a < 2 ∨ b < 2 then a * b else
  ((zf (zm a b) * ((f (16 * (a / zf (zm a b)) + b / zf (zm a b)) ^^^ f (16 * (a / zf (zm a b)) + b % zf (zm a b))) ^^^ f (16 * (a % zf (zm a b)) + b / zf (zm a b)))) ^^^ f (16 * (a % zf (zm a b)) + b % zf (zm a b))) ^^^ f (16 * f (16 * (a / zf (zm a b)) + b / zf (zm a b)) + zf (zm a b) / 2)
theorem zf_b {a b F : Nat} (ha : a < 256) (hb : b < 256) (hF : F = zf (zm a b)) : (F = 2 ∨ F = 4 ∨ F = 16) ∧ a / F < 16 ∧ b / F < 16 ∧ a % F < 16 ∧ b % F < 16 ∧ F / 2 < 16 := by
  have hz := zf_c (zm a b)
  rw [← hF] at hz
  have hm : (F = 16 ∧ 16 ≤ zm a b) ∨ (F = 4 ∧ zm a b < 16) ∨ (F = 2 ∧ zm a b < 4) := by
    rw [hF]; unfold zf; split
    · exact Or.inl ⟨rfl, by assumption⟩
    · split
      · exact Or.inr (Or.inl ⟨rfl, by omega⟩)
      · exact Or.inr (Or.inr ⟨rfl, by omega⟩)
  have hza : a ≤ zm a b := by unfold zm; split <;> omega
  have hzb : b ≤ zm a b := by unfold zm; split <;> omega
  rcases hm with ⟨rfl, _⟩ | ⟨rfl, _⟩ | ⟨rfl, _⟩ <;> omega
/-- the product out of a table that holds what is asked -/
theorem npT_eq {f : Nat → Nat} {a b : Nat} (ha : a < 256) (hb : b < 256) (h : ∀ x y, x < 16 → y < 16 → ((x = a / zf (zm a b) ∨ x = a % zf (zm a b)) ∧ (y = b / zf (zm a b) ∨ y = b % zf (zm a b))) ∨ (x = np (a / zf (zm a b)) (b / zf (zm a b)) ∧ y = zf (zm a b) / 2) → ¬ (a < 2 ∨ b < 2) → f (16 * x + y) = np x y) : npT f a b = np a b := by
  by_cases h2 : a < 2 ∨ b < 2
  · rw [npT, np, if_pos h2, if_pos h2]
  · obtain ⟨-, b1, b2, b3, b4, b5⟩ := zf_b ha hb rfl
    rw [np_rec ha hb h2 rfl, npT, if_neg h2]
    rw [h _ _ b1 b2 (Or.inl ⟨Or.inl rfl, Or.inl rfl⟩) h2, h _ _ b1 b4 (Or.inl ⟨Or.inl rfl, Or.inr rfl⟩) h2, h _ _ b3 b2 (Or.inl ⟨Or.inr rfl, Or.inl rfl⟩) h2, h _ _ b3 b4 (Or.inl ⟨Or.inr rfl, Or.inr rfl⟩) h2, h _ _ (np_16 _ b1 _ b2) b5 (Or.inr ⟨rfl, rfl⟩) h2]
theorem npT_tab {a b : Nat} (ha : a < 256) (hb : b < 256) : npT ztab a b = np a b := npT_eq ha hb (fun x y hx hy _ _ => by
  unfold ztab fillT
  rw [if_pos (by omega)]
  show np ((16 * x + y) / 16) ((16 * x + y) % 16) = np x y
  rw [show (16 * x + y) / 16 = x by omega, show (16 * x + y) % 16 = y by omega])
/-- is what a product of two below 16 asks for laid before it -/
def ck_ord (a b : Nat) : Bool := Nat.blt (16 * (a / zf (zm a b)) + b / zf (zm a b)) (16 * a + b) && (Nat.blt (16 * (a / zf (zm a b)) + b % zf (zm a b)) (16 * a + b) && (Nat.blt (16 * (a % zf (zm a b)) + b / zf (zm a b)) (16 * a + b) && (Nat.blt (16 * (a % zf (zm a b)) + b % zf (zm a b)) (16 * a + b) && Nat.blt (16 * np (a / zf (zm a b)) (b / zf (zm a b)) + zf (zm a b) / 2) (16 * a + b))))
theorem ck_ords : ∀ a, a < 16 → ∀ b, b < 16 → ¬ (a < 2 ∨ b < 2) → ck_ord a b = true := by decide +kernel
theorem fillT_lt (k j : Nat) (hk : k ≤ 256) : fillT k j < 16 := by
  unfold fillT
  split
  · exact np_16 _ (by omega) _ (by omega)
  · decide
theorem npT_fill {a b : Nat} (ha : a < 16) (hb : b < 16) : npT (fillT (16 * a + b)) a b = np a b := npT_eq (by omega) (by omega) (fun x y hx hy h h2 => by
  have ho := ck_ords a ha b hb h2
  unfold ck_ord at ho
  simp only [Bool.and_eq_true, Nat.blt_eq] at ho
  obtain ⟨o1, o2, o3, o4, o5⟩ := ho
  have hlt : 16 * x + y < 16 * a + b := by
    rcases h with ⟨h | h, h' | h'⟩ | ⟨h, h'⟩ <;> subst h <;> subst h' <;> assumption
  unfold fillT
  rw [if_pos hlt]
  show np ((16 * x + y) / 16) ((16 * x + y) % 16) = np x y
  rw [show (16 * x + y) / 16 = x by omega, show (16 * x + y) % 16 = y by omega])
theorem ztab_lt (k : Nat) : ztab k < 16 := fillT_lt 256 k (Nat.le_refl _)
theorem fillT_s {a b : Nat} (ha : a < 16) (hb : b < 16) : va_up (fillT (16 * a + b)) (16 * a + b) (np a b) = fillT (16 * a + (b + 1)) := by
  funext j
  unfold va_up fillT
  by_cases h : j = 16 * a + b
  · rw [if_pos h, if_pos (by omega)]
    show np a b = np (j / 16) (j % 16)
    rw [show j / 16 = a by omega, show j % 16 = b by omega]
  · rw [if_neg h]
    by_cases h2 : j < 16 * a + b
    · rw [if_pos h2, if_pos (by omega)]
    · rw [if_neg h2, if_neg (by omega)]
theorem z_recellN {D : va_G} {cl : List vw_C} {ws : va_W} {a : Nat} {H : Heap} {k : Nat} {cA : ClassId} {n : Nat} {f g : Nat → Nat} (hP : va_P D cl ws H) (hk : ws[k]? = some (a, .inl (cA, n, .inl (aN f)))) (h : ∀ j, j < n → f j = g j) : va_P D cl (ws.set k (a, .inl (cA, n, .inl (aN g)))) H := by
  intro i q hq
  rcases Nat.lt_or_ge i ws.length with hl | hl
  · by_cases hi : i = k
    · subst hi
      rw [List.getElem?_set_self hl] at hq
      cases hq
      have h1 := hP i _ hk
      show H[a]? = _
      rw [show H[a]? = some (vp_cell cA (n, .inl (aN f))) from h1]
      congr 1
      show arrV cA n (fun j => Value.int (aN f j)) = arrV cA n (fun j => Value.int (aN g j))
      unfold arrV
      congr 2
      funext j
      show Value.int (aN f j.val) = Value.int (aN g j.val)
      rw [aN, aN, h j.val j.isLt]
    · rw [List.getElem?_set_ne (fun q => hi q.symm)] at hq
      exact hP i q hq
  · rw [List.getElem?_eq_none (by rw [List.length_set]; exact hl)] at hq
    cases hq
theorem z_reDN {A : Nat → Prop} {ws : va_W} {a k : Nat} {cA : ClassId} {n : Nat} {f g : Nat → Nat} (hD : va_D A ws) (hk : ws[k]? = some (a, .inl (cA, n, .inl (aN f)))) : va_D A (ws.set k (a, .inl (cA, n, .inl (aN g)))) := hD.set hk
/-- an int of a script, in range or not -/
def inN (n : Nat) (x : Int32) : Bool := decide (¬ x < 0 ∧ ¬ nI n ≤ x)
theorem inN_t {n : Nat} {x : Int32} (h : ¬ x < 0) (h2 : ¬ nI n ≤ x) : inN n x = true := decide_eq_true ⟨h, h2⟩
theorem inN_f {n : Nat} {x : Int32} (h : x < 0 ∨ nI n ≤ x) : inN n x = false := decide_eq_false (fun q => h.elim q.1 q.2)
theorem inN_of {n : Nat} {x : Int32} (hn : n < 2 ^ 31) (h : inN n x = true) : ∃ j : Nat, j < n ∧ x = nI j := by
  have h1 := of_decide_eq_true h
  rcases z_rng x (n := n) hn with q | q | q
  · exact q
  · exact absurd q h1.1
  · exact absurd q h1.2
theorem inN_n {n j : Nat} (h : j < n) (hn : n < 2147483648) : inN n (nI j) = true := inN_t (z_npos (by omega)) (fun q => by have := (z_nle hn (by omega)).mp q; omega)
theorem inN_lt {x : Int32} {n : Nat} (h : ¬ x < 0) (h2 : ¬ nI n ≤ x) (hn : n < 2 ^ 31) : ∃ j : Nat, j < n ∧ x = nI j := inN_of hn (inN_t h h2)
def tn (x : Int32) : Nat := x.toNatClampNeg
theorem tn_n {j : Nat} (h : j < 2147483648) : tn (nI j) = j := nI_clamp h
theorem fa_lt' (a b : Int32) : a < b ↔ a.toInt < b.toInt := Int32.lt_iff_toInt_lt
theorem rng_of {x : Int32} {a b : Nat} (hb : b ≤ 2147483647) (h : ¬ x < nI a) (h2 : ¬ nI b < x) (ha : a ≤ b) : ∃ j : Nat, a ≤ j ∧ j ≤ b ∧ x = nI j := by
  have h3 : ¬ x < 0 := fun q => h (by
    rw [fa_lt'] at q ⊢
    rw [nI_toInt (by omega)]
    have : (0 : Int32).toInt = 0 := by decide
    omega)
  obtain ⟨j, hj, rfl⟩ := nI_of h3
  refine ⟨j, ?_, ?_, rfl⟩
  · rcases Nat.lt_or_ge j a with z | z
    · exact absurd ((z_nlt (by omega) (by omega)).mpr z) h
    · exact z
  · rcases Nat.lt_or_ge b j with z | z
    · exact absurd ((z_nlt (by omega) (by omega)).mpr z) h2
    · exact z
