/-! The numbers, the basket and the board as plain functions: what both sides compute. -/
def alln : Nat → (Nat → Bool) → Bool
  | 0, _ => true
  | n + 1, f => f n && alln n f
theorem alln_at {n : Nat} {f : Nat → Bool} (h : alln n f = true) : ∀ i, i < n → f i = true := by
  induction n with
  | zero => intro i hi; omega
  | succ n ih =>
    intro i hi
    simp only [alln, Bool.and_eq_true] at h
    rcases Nat.lt_or_ge i n with h1 | h1
    · exact ih h.2 i h1
    · have : i = n := by omega
      subst this; exact h.1
/-- PRODUCTS below 16, a nibble each -/
def zT : Nat := 105869934573458929506328375061315679171845852290158294152364606998566138674788542437607012108590681290039201854413661647678221215878256740644142704492826533379271178812567475734100749217218550151073389438700294400309340617321998747341553871339115878427482513263866732641709495414604747141407345988080972595200
def zs (a b : Nat) : Nat := (zT >>> (4 * (16 * a + b))) &&& 15
def zf (m : Nat) : Nat := if 16 ≤ m then 16 else if 4 ≤ m then 4 else 2
def zc (f a b : Nat) : Nat := ((f * ((zs (a / f) (b / f) ^^^ zs (a / f) (b % f)) ^^^ zs (a % f) (b / f))) ^^^ zs (a % f) (b % f)) ^^^ zs (zs (a / f) (b / f)) (f / 2)
/-- the greater one, as the Java says it -/
def zm (a b : Nat) : Nat := if b < a then a else b
/-- the PRODUCT -/
def np (a b : Nat) : Nat := if a < 2 ∨ b < 2 then a * b else zc (zf (zm a b)) a b
theorem zs_lt (a b : Nat) : zs a b < 16 := Nat.lt_of_le_of_lt Nat.and_le_right (by decide)
theorem zf_c (m : Nat) : zf m = 2 ∨ zf m = 4 ∨ zf m = 16 := by
  unfold zf
  split
  · simp
  · split <;> simp
theorem zx4 {a b : Nat} (ha : a < 16) (hb : b < 16) : a ^^^ b < 16 := Nat.xor_lt_two_pow (n := 4) ha hb
theorem zx8 {a b : Nat} (ha : a < 256) (hb : b < 256) : a ^^^ b < 256 := Nat.xor_lt_two_pow (n := 8) ha hb
theorem zx16 {a b : Nat} (ha : a < 65536) (hb : b < 65536) : a ^^^ b < 65536 := Nat.xor_lt_two_pow (n := 16) ha hb
theorem zc_lt {f : Nat} (hf : f = 2 ∨ f = 4 ∨ f = 16) (a b : Nat) : zc f a b < 256 := by
  unfold zc
  refine zx8 (zx8 ?_ (Nat.lt_trans (zs_lt _ _) (by decide))) (Nat.lt_trans (zs_lt _ _) (by decide))
  have h := zx4 (zx4 (zs_lt (a / f) (b / f)) (zs_lt (a / f) (b % f))) (zs_lt (a % f) (b / f))
  generalize zs (a / f) (b / f) ^^^ zs (a / f) (b % f) ^^^ zs (a % f) (b / f) = X at h
  rcases hf with rfl | rfl | rfl <;> omega
theorem np_lt {a b : Nat} (ha : a < 256) (hb : b < 256) : np a b < 256 := by
  unfold np
  split
  · rename_i h
    rcases h with h | h
    · have : a = 0 ∨ a = 1 := by omega
      rcases this with rfl | rfl <;> omega
    · have : b = 0 ∨ b = 1 := by omega
      rcases this with rfl | rfl <;> omega
  · exact zc_lt (zf_c _) a b
theorem np_2 : ∀ a, a < 2 → ∀ b, b < 2 → np a b < 2 := by decide +kernel
theorem np_4 : ∀ a, a < 4 → ∀ b, b < 4 → np a b < 4 := by decide +kernel
theorem np_16 : ∀ a, a < 16 → ∀ b, b < 16 → np a b < 16 := by decide +kernel
theorem zs_np : ∀ a, a < 16 → ∀ b, b < 16 → zs a b = np a b := by decide +kernel
/-- the recursion's row -/
theorem np_rec {a b : Nat} (ha : a < 256) (hb : b < 256) (h : ¬ (a < 2 ∨ b < 2)) {f : Nat} (hf : f = zf (zm a b)) :
    np a b = ((f * ((np (a / f) (b / f) ^^^ np (a / f) (b % f)) ^^^ np (a % f) (b / f))) ^^^ np (a % f) (b % f)) ^^^ np (np (a / f) (b / f)) (f / 2) := by
  have hz := zf_c (zm a b)
  rw [← hf] at hz
  have hm : (f = 16 ∧ 16 ≤ zm a b) ∨ (f = 4 ∧ zm a b < 16) ∨ (f = 2 ∧ zm a b < 4) := by
    rw [hf]; unfold zf; split
    · exact Or.inl ⟨rfl, by assumption⟩
    · split
      · exact Or.inr (Or.inl ⟨rfl, by omega⟩)
      · exact Or.inr (Or.inr ⟨rfl, by omega⟩)
  have hza : a ≤ zm a b := by unfold zm; split <;> omega
  have hzb : b ≤ zm a b := by unfold zm; split <;> omega
  have b1 : a / f < 16 := by rcases hm with ⟨rfl, _⟩ | ⟨rfl, _⟩ | ⟨rfl, _⟩ <;> omega
  have b2 : b / f < 16 := by rcases hm with ⟨rfl, _⟩ | ⟨rfl, _⟩ | ⟨rfl, _⟩ <;> omega
  have b3 : a % f < 16 := by rcases hm with ⟨rfl, _⟩ | ⟨rfl, _⟩ | ⟨rfl, _⟩ <;> omega
  have b4 : b % f < 16 := by rcases hm with ⟨rfl, _⟩ | ⟨rfl, _⟩ | ⟨rfl, _⟩ <;> omega
  have b5 : f / 2 < 16 := by rcases hm with ⟨rfl, _⟩ | ⟨rfl, _⟩ | ⟨rfl, _⟩ <;> omega
  rw [← zs_np _ b1 _ b2, ← zs_np _ b1 _ b4, ← zs_np _ b3 _ b2, ← zs_np _ b3 _ b4, ← zs_np _ (zs_lt _ _) _ b5]
  rw [np, if_neg h, ← hf, zc]
/-- a fast one, for the kernel -/
def fz (a b : Nat) : Nat := Nat.land (Nat.shiftRight zT (Nat.mul 4 (Nat.add (Nat.mul 16 a) b))) 15
def fc (f a b : Nat) : Nat := Nat.xor (Nat.xor (Nat.mul f (Nat.xor (Nat.xor (fz (Nat.div a f) (Nat.div b f)) (fz (Nat.div a f) (Nat.mod b f))) (fz (Nat.mod a f) (Nat.div b f)))) (fz (Nat.mod a f) (Nat.mod b f))) (fz (fz (Nat.div a f) (Nat.div b f)) (Nat.div f 2))
def ff (a b : Nat) : Nat := cond (Nat.ble 16 a) 16 (cond (Nat.ble 16 b) 16 (cond (Nat.ble 4 a) 4 (cond (Nat.ble 4 b) 4 2)))
def fnp (a b : Nat) : Nat := cond (Nat.ble 2 a) (cond (Nat.ble 2 b) (fc (ff a b) a b) (Nat.mul a b)) (Nat.mul a b)
theorem fc_eq (f a b : Nat) : fc f a b = zc f a b := rfl
theorem cond_ble {α : Type} (k a : Nat) (x y : α) : cond (Nat.ble k a) x y = if k ≤ a then x else y := by
  by_cases h : k ≤ a
  · rw [if_pos h, Nat.ble_eq_true_of_le h]; rfl
  · rw [if_neg h]
    cases hb : Nat.ble k a with
    | false => rfl
    | true => exact absurd (Nat.le_of_ble_eq_true hb) h
theorem ff_eq (a b : Nat) : ff a b = zf (zm a b) := by
  unfold ff zf zm
  simp only [cond_ble]
  by_cases h : b < a
  · simp only [if_pos h]
    repeat' split
    all_goals first | rfl | omega
  · simp only [if_neg h]
    repeat' split
    all_goals first | rfl | omega
theorem fnp_eq (a b : Nat) : fnp a b = np a b := by
  unfold fnp np
  simp only [cond_ble, fc_eq, ff_eq]
  by_cases h : a < 2 ∨ b < 2
  · rw [if_pos h]
    split
    · split
      · omega
      · rfl
    · rfl
  · rw [if_neg h, if_pos (by omega), if_pos (by omega)]
/-- powers: what is left of the loop -/
def pwf : Nat → Nat → Nat → Nat → Nat
  | 0, r, _, _ => r
  | d + 1, r, x, n => if n = 0 then r else pwf d (if n % 2 = 1 then np r x else r) (np x x) (n / 2)
def pw (a n : Nat) : Nat := pwf 31 1 a n
theorem pwf_lt : ∀ (d r x n : Nat), r < 256 → x < 256 → pwf d r x n < 256
  | 0, _, _, _, h, _ => h
  | d + 1, r, x, n, h, hx => by
    unfold pwf
    split
    · exact h
    · refine pwf_lt d _ _ _ ?_ (np_lt hx hx)
      split
      · exact np_lt h hx
      · exact h
theorem pw_lt {a n : Nat} (h : a < 256) : pw a n < 256 := pwf_lt _ _ _ _ (by decide) h
theorem pwf_0 (d r x : Nat) : pwf d r x 0 = r := by cases d <;> simp [pwf]
theorem pwf_s {d r x n : Nat} (h : 0 < n) : pwf (d + 1) r x n = pwf d (if n % 2 = 1 then np r x else r) (np x x) (n / 2) := by
  rw [pwf, if_neg (by omega)]
def rt (a : Nat) : Nat := pw a 128
def qt (a b : Nat) : Nat := np a (pw b 254)
/-- traces -/
def trf : Nat → Nat → Nat → Nat
  | 0, s, _ => s
  | k + 1, s, x => trf k (s ^^^ x) (np x x)
def tr (a : Nat) : Nat := trf 8 0 a
/-- orders -/
def odf : Nat → Nat → Nat → Nat → Nat
  | 0, _, _, n => n
  | d + 1, x, a, n => if x = 1 then n else odf d (np x a) a (n + 1)
def od (a : Nat) : Nat := odf 254 a a 1
def osf : Nat → Nat → Nat → Bool
  | 0, x, _ => Nat.beq x 1
  | d + 1, x, a => Nat.beq x 1 || osf d (fnp x a) a
theorem odf_1 (d a n : Nat) : odf d 1 a n = n := by cases d <;> simp [odf]
theorem odf_s {d x a n : Nat} (h : x ≠ 1) : odf (d + 1) x a n = odf d (np x a) a (n + 1) := by rw [odf, if_neg h]
theorem osf_s {d x a : Nat} (h : osf (d + 1) x a = true) (hx : x ≠ 1) : osf d (np x a) a = true := by
  rw [osf, fnp_eq] at h
  have : Nat.beq x 1 = false := by
    cases hb : Nat.beq x 1 with
    | false => rfl
    | true => exact absurd (Nat.eq_of_beq_eq_true hb) hx
  rw [this, Bool.false_or] at h
  exact h
theorem osf_0 {x a : Nat} (h : osf 0 x a = true) : x = 1 := Nat.eq_of_beq_eq_true h
/-- squarings -/
def sqf : Nat → Nat → Nat → Nat → Nat
  | 0, _, _, n => n
  | d + 1, x, a, n => if x = a then n else sqf d (np x x) a (n + 1)
def sq (a : Nat) : Nat := sqf 7 (np a a) a 1
def ssf : Nat → Nat → Nat → Bool
  | 0, x, a => Nat.beq x a
  | d + 1, x, a => Nat.beq x a || ssf d (fnp x x) a
theorem sqf_1 (d a n : Nat) : sqf d a a n = n := by cases d <;> simp [sqf]
theorem sqf_s {d x a n : Nat} (h : x ≠ a) : sqf (d + 1) x a n = sqf d (np x x) a (n + 1) := by rw [sqf, if_neg h]
theorem ssf_s {d x a : Nat} (h : ssf (d + 1) x a = true) (hx : x ≠ a) : ssf d (np x x) a = true := by
  rw [ssf, fnp_eq] at h
  have : Nat.beq x a = false := by
    cases hb : Nat.beq x a with
    | false => rfl
    | true => exact absurd (Nat.eq_of_beq_eq_true hb) hx
  rw [this, Bool.false_or] at h
  exact h
theorem ssf_0 {x a : Nat} (h : ssf 0 x a = true) : x = a := Nat.eq_of_beq_eq_true h
/-- solutions -/
def slk (w : Nat) (g : Bool) : Nat → Option Nat
  | 0 => none
  | x + 1 => if (np x x ^^^ x = w) ∧ ((slk w g x).isNone = true ∨ g = true) then some x else slk w g x
theorem slk_lt {w : Nat} {g : Bool} : ∀ {n x : Nat}, slk w g n = some x → x < n
  | 0, x, h => by simp [slk] at h
  | n + 1, x, h => by
    unfold slk at h
    split at h
    · cases h; omega
    · have := slk_lt h; omega
def sl (w : Nat) (g : Bool) : Option Nat := slk w g 256
/-- sets of numbers: how many below n, the least one that is not in it, a place -/
def cn (f : Nat → Bool) : Nat → Nat
  | 0 => 0
  | n + 1 => cn f n + (f n).toNat
theorem cn_le (f : Nat → Bool) : ∀ n, cn f n ≤ n
  | 0 => Nat.le_refl _
  | n + 1 => by have := cn_le f n; unfold cn; cases f n <;> simp <;> omega
theorem cn_mono (f : Nat → Bool) {m n : Nat} (h : m ≤ n) : cn f m ≤ cn f n := by
  induction n with
  | zero => have : m = 0 := by omega
            subst this; exact Nat.le_refl _
  | succ n ih =>
    rcases Nat.lt_or_ge m (n + 1) with h1 | h1
    · have := ih (by omega)
      rw [show cn f (n + 1) = cn f n + (f n).toNat from rfl]; omega
    · have : m = n + 1 := by omega
      subst this; exact Nat.le_refl _
theorem cn_cong {f g : Nat → Bool} {n : Nat} (h : ∀ k, k < n → f k = g k) : cn f n = cn g n := by
  induction n with
  | zero => rfl
  | succ n ih => rw [cn, cn, ih (fun k hk => h k (by omega)), h n (by omega)]
theorem cn_add (f : Nat → Bool) (n m : Nat) : cn f (n + m) = cn f n + cn (fun i => f (n + i)) m := by
  induction m with
  | zero => rfl
  | succ m ih => rw [← Nat.add_assoc, cn, ih, cn]; omega
/-- the least number that is not in f, n if all below n are -/
def lo (f : Nat → Bool) : Nat → Nat
  | 0 => 0
  | n + 1 => if lo f n < n then lo f n else if f n then n + 1 else n
theorem lo_le (f : Nat → Bool) : ∀ n, lo f n ≤ n
  | 0 => Nat.le_refl _
  | n + 1 => by
    have := lo_le f n
    unfold lo
    split
    · omega
    · split <;> omega
theorem lo_in (f : Nat → Bool) : ∀ n i, i < lo f n → f i = true
  | 0, i, h => by simp [lo] at h
  | n + 1, i, h => by
    have h1 := lo_le f n
    unfold lo at h
    split at h
    · exact lo_in f n i h
    · split at h
      · rename_i h2 h3
        by_cases h4 : i < lo f n
        · exact lo_in f n i h4
        · have : i = n := by omega
          subst this; exact h3
      · exact lo_in f n i (by omega)
theorem lo_out (f : Nat → Bool) : ∀ n, lo f n < n → f (lo f n) = false
  | 0, h => by omega
  | n + 1, h => by
    have h1 := lo_le f n
    by_cases h2 : lo f n < n
    · have e : lo f (n + 1) = lo f n := by rw [lo, if_pos h2]
      rw [e]; exact lo_out f n h2
    · by_cases h3 : f n = true
      · have e : lo f (n + 1) = n + 1 := by rw [lo, if_neg h2, if_pos h3]
        omega
      · have e : lo f (n + 1) = n := by rw [lo, if_neg h2, if_neg h3]
        rw [e]; simpa using h3
theorem lo_eq {f : Nat → Bool} {n k : Nat} (hk : k ≤ n) (h1 : ∀ i, i < k → f i = true) (h2 : k < n → f k = false) : lo f n = k := by
  have h3 := lo_le f n
  rcases Nat.lt_trichotomy (lo f n) k with h | h | h
  · have := lo_out f n (by omega)
    rw [h1 _ h] at this; cases this
  · exact h
  · have := lo_in f n k h
    rw [h2 (by omega)] at this; cases this
theorem lo_cong {f g : Nat → Bool} {n : Nat} (h : ∀ k, k < n → f k = g k) : lo f n = lo g n :=
  (lo_eq (lo_le f n) (fun i hi => by rw [← h i (by have := lo_le f n; omega)]; exact lo_in f n i hi) (fun hk => by rw [← h _ hk]; exact lo_out f n hk)).symm
/-- the number behind x lesser ones -/
def nbk (f : Nat → Bool) (x : Int32) : Nat → Option Nat
  | 0 => none
  | n + 1 => if (nbk f x n).isSome = true then nbk f x n else if f n = true ∧ nI (cn f n) = x then some n else none
/-- taken over -/
def fil {α : Type} (f g : Nat → α) (n : Nat) : Nat → α := fun k => if k < n then f k else g k
theorem fil_0 {α : Type} (f g : Nat → α) : fil f g 0 = g := by funext k; simp [fil]
theorem fil_s {α : Type} (f g : Nat → α) (n : Nat) : va_up (fil f g n) n (f n) = fil f g (n + 1) := by
  funext k
  unfold va_up fil
  by_cases h : k = n
  · subst h; simp
  · rw [if_neg h]
    by_cases h2 : k < n
    · rw [if_pos h2, if_pos (by omega)]
    · rw [if_neg h2, if_neg (by omega)]
theorem fil_at {α : Type} {f g : Nat → α} {n k : Nat} (h : k < n) : fil f g n k = f k := by simp [fil, h]
/-- how many come -/
def cm (f g : Nat → Bool) : Nat → Nat
  | 0 => 0
  | n + 1 => cm f g n + (g n && !f n).toNat
theorem cm_le (f g : Nat → Bool) : ∀ n, cm f g n ≤ n
  | 0 => Nat.le_refl _
  | n + 1 => by have := cm_le f g n; unfold cm; cases (g n && !f n) <;> simp <;> omega
theorem va_up_same {α : Type} {f : Nat → α} {k : Nat} {v : α} (h : f k = v) : va_up f k v = f := by
  funext j
  unfold va_up
  split
  · rename_i e; subst e; exact h.symm
  · rfl
/-- sums by trying -/
def ts1 (b : Nat) : Nat → Nat → Bool
  | 0 => fun _ => false
  | i + 1 => va_up (ts1 b i) (i ^^^ b) true
def ts2 (a b : Nat) : Nat → Nat → Bool
  | 0 => ts1 b a
  | i + 1 => va_up (ts2 a b i) (a ^^^ i) true
def ts (a b : Nat) : Nat := lo (ts2 a b b) 256
/-- products by trying -/
def tpj (a b x : Nat) (f0 : Nat → Bool) : Nat → Nat → Bool
  | 0 => f0
  | y + 1 => va_up (tpj a b x f0 y) ((np x b ^^^ np a y) ^^^ np x y) true
def tpi (a b : Nat) : Nat → Nat → Bool
  | 0 => fun _ => false
  | x + 1 => tpj a b x (tpi a b x) b
def tp (a b : Nat) : Nat := lo (tpi a b a) 256
theorem tpj_hi {a b x : Nat} {f0 : Nat → Bool} (ha : a < 16) (hb : b < 16) (hx : x < 16) (h0 : ∀ j, 16 ≤ j → f0 j = false) : ∀ y, y ≤ b → ∀ j, 16 ≤ j → tpj a b x f0 y j = false
  | 0, _, j, hj => h0 j hj
  | y + 1, hy, j, hj => by
    have h1 := zx4 (zx4 (np_16 x hx b hb) (np_16 a ha y (by omega))) (np_16 x hx y (by omega))
    rw [tpj, z_up_ne (by omega)]
    exact tpj_hi ha hb hx h0 y (by omega) j hj
theorem tpi_hi {a b : Nat} (ha : a < 16) (hb : b < 16) : ∀ x, x ≤ a → ∀ j, 16 ≤ j → tpi a b x j = false
  | 0, _, _, _ => rfl
  | x + 1, hx, j, hj => tpj_hi ha hb (by omega) (tpi_hi ha hb x (by omega)) b (Nat.le_refl _) j hj
theorem tp_17 {a b : Nat} (ha : a < 16) (hb : b < 16) : lo (tpi a b a) 17 = tp a b := by
  have h := tpi_hi ha hb a (Nat.le_refl _)
  have h1 : lo (tpi a b a) 17 ≤ 16 := by
    rcases Nat.lt_or_ge 16 (lo (tpi a b a) 17) with q | q
    · have := lo_in _ 17 16 q
      rw [h 16 (Nat.le_refl _)] at this; cases this
    · exact q
  exact (lo_eq (by omega) (lo_in _ 17) (fun _ => lo_out _ 17 (by omega))).symm
/-- fields below n -/
def clP (n : Nat) : Prop := ∀ a, a < n → ∀ b, b < n → a ^^^ b < n ∧ np a b < n
def ivP (n : Nat) : Prop := ∀ a, a < n → 1 ≤ a → ∃ b, b < n ∧ np a b = 1
/-- shifted and scaled -/
def shk (f : Nat → Bool) (s : Nat) : Nat → Nat → Bool
  | 0 => fun _ => false
  | i + 1 => if f i = true then va_up (shk f s i) (i ^^^ s) true else shk f s i
def sck (f : Nat → Bool) (s : Nat) : Nat → Nat → Bool
  | 0 => fun _ => false
  | i + 1 => if f i = true then va_up (sck f s i) (np i s) true else sck f s i
/-- spans -/
def wd (T : Nat → Bool) (n : Nat) : Nat → Bool := fun j => T j || T (j ^^^ n)
def spk (f : Nat → Bool) : Nat → Nat → Bool
  | 0 => va_up (fun _ => false) 0 true
  | i + 1 => if f i = true ∧ spk f i i = false then wd (spk f i) i else spk f i
def rkk (f : Nat → Bool) : Nat → Nat
  | 0 => 0
  | i + 1 => if f i = true ∧ spk f i i = false then rkk f i + 1 else rkk f i
theorem rkk_le (f : Nat → Bool) : ∀ n, rkk f n ≤ n
  | 0 => Nat.le_refl _
  | n + 1 => by have := rkk_le f n; unfold rkk; split <;> omega
/-- a span that is being widened in place -/
def wdk (T : Nat → Bool) (n k : Nat) : Nat → Bool := fun j => T j || (T (j ^^^ n) && decide (j ^^^ n < k))
theorem wdk_0 (T : Nat → Bool) (n : Nat) : wdk T n 0 = T := by funext j; simp [wdk]
theorem wdk_no {T : Nat → Bool} {n k : Nat} (h : wdk T n k k = false) : wdk T n (k + 1) = wdk T n k := by
  funext j
  unfold wdk at h ⊢
  simp only [Bool.or_eq_false_iff] at h
  by_cases e : j ^^^ n = k
  · have hT : T (j ^^^ n) = false := by rw [e]; exact h.1
    rw [hT]; simp
  · congr 2
    have : (j ^^^ n < k + 1) ↔ (j ^^^ n < k) := by omega
    simp [this]
theorem xor_xor (a b : Nat) : a ^^^ b ^^^ b = a := by rw [Nat.xor_assoc, Nat.xor_self, Nat.xor_zero]
theorem wdk_yes {T : Nat → Bool} {n k : Nat} (h : wdk T n k k = true) : wdk T n (k + 1) = va_up (wdk T n k) (k ^^^ n) true := by
  funext j
  by_cases e : j = k ^^^ n
  · subst e
    rw [z_up_eq]
    unfold wdk at h ⊢
    rw [xor_xor]
    simp only [Bool.or_eq_true, Bool.and_eq_true, decide_eq_true_eq] at h ⊢
    rcases h with h | h
    · exact Or.inr ⟨h, by omega⟩
    · exact Or.inl h.1
  · rw [z_up_ne e]
    unfold wdk
    have h1 : j ^^^ n ≠ k := fun q => e (by rw [← q, xor_xor])
    congr 2
    have : (j ^^^ n < k + 1) ↔ (j ^^^ n < k) := by omega
    simp [this]
theorem wdk_all {T : Nat → Bool} {n : Nat} (hn : n < 256) {j : Nat} (hj : j < 256) : wdk T n 256 j = wd T n j := by
  unfold wdk wd
  rw [decide_eq_true (zx8 hj hn), Bool.and_true]
/-- the board -/
def gwk (b : Nat) : Nat → Nat
  | 0 => 0
  | p + 1 => if b.testBit p = true then gwk b p ^^^ np (p / 4) (p % 4) else gwk b p
def gw (b : Nat) : Nat := gwk b 16
def trn (b x y u v : Nat) : Nat := (((b ^^^ 2 ^ (4 * x + y)) ^^^ 2 ^ (4 * u + y)) ^^^ 2 ^ (4 * x + v)) ^^^ 2 ^ (4 * u + v)
/-- is the code c a play of b, and where it leads -/
def isp (b c : Nat) : Bool := b.testBit (4 * (c / 64) + c / 16 % 4) && (decide (c / 4 % 4 < c / 64) && decide (c % 4 < c / 16 % 4))
def aft (b c : Nat) : Nat := trn b (c / 64) (c / 16 % 4) (c / 4 % 4) (c % 4)
theorem pow_lt16 {k : Nat} (h : k < 16) : 2 ^ k < 65536 := by
  have : (2 : Nat) ^ k < 2 ^ 16 := Nat.pow_lt_pow_right (by decide) h
  omega
theorem trn_lt {b x y u v : Nat} (hb : b < 65536) (hx : x < 4) (hy : y < 4) (hu : u < 4) (hv : v < 4) : trn b x y u v < 65536 :=
  zx16 (zx16 (zx16 (zx16 hb (pow_lt16 (by omega))) (pow_lt16 (by omega))) (pow_lt16 (by omega))) (pow_lt16 (by omega))
theorem aft_lt {b c : Nat} (hb : b < 65536) (hc : c < 256) : aft b c < 65536 := trn_lt hb (by omega) (by omega) (by omega) (by omega)
def wbk (b : Nat) : Nat → Nat → Bool
  | 0 => fun _ => false
  | c + 1 => if isp b c = true then va_up (wbk b c) (gw (aft b c)) true else wbk b c
/-- the best play, of the codes below n -/
def bpk (b : Nat) : Nat → Option Nat
  | 0 => none
  | c + 1 => if (bpk b c).isSome = true then bpk b c else if isp b c = true ∧ gw (aft b c) = 0 then some c else none
theorem bit1 (b p : Nat) : b / 2 ^ p &&& 1 = (b.testBit p).toNat := by
  rw [Nat.testBit_eq_decide_div_mod_eq, Nat.and_one_is_mod]
  rcases Nat.mod_two_eq_zero_or_one (b / 2 ^ p) with h | h <;> simp [h]
theorem bitp (b p : Nat) : b &&& 1 * 2 ^ p = (b.testBit p).toNat * 2 ^ p := by
  rw [Nat.one_mul]
  apply Nat.eq_of_testBit_eq
  intro i
  rw [Nat.testBit_and, Nat.testBit_two_pow]
  by_cases e : p = i
  · subst e
    cases h : b.testBit p
    · simp
    · simp [Nat.testBit_two_pow_self]
  · rw [decide_eq_false e, Bool.and_false]
    cases h : b.testBit p
    · simp
    · simp [Nat.testBit_two_pow_of_ne e]
theorem bitp_0 (b p : Nat) : (b &&& 1 * 2 ^ p = 0) ↔ b.testBit p = false := by
  rw [bitp]
  have : 0 < 2 ^ p := Nat.pow_pos (by decide)
  cases b.testBit p <;> simp <;> omega
theorem bitp_p (b p : Nat) : (0 < b &&& 1 * 2 ^ p) ↔ b.testBit p = true := by
  have := bitp_0 b p
  cases h : b.testBit p <;> simp [h] at this ⊢ <;> omega
def plc (b : Nat) : Nat := ((b / 2 ^ 5 &&& 7) + 8 * (b / 2 ^ 9 &&& 7)) + 64 * (b / 2 ^ 13 &&& 7)
def spr (q : Nat) : Nat := (q % 8) * 32 + (q / 8 % 8) * 512 + (q / 64) * 8192
/-- long sums -/
def mx (c : Int64) (n : Nat) : Int64 := 31 * c + lN n
def mxr (f : Nat → Nat) (c : Int64) : Nat → Int64
  | 0 => c
  | k + 1 => mx (mxr f c k) (f k)
def mxb (f : Nat → Bool) (c : Int64) : Nat → Int64
  | 0 => c
  | k + 1 => if f k = true then mx (mxb f c k) k else mxb f c k
def sm (f : Nat → Nat) : Nat → Nat
  | 0 => 0
  | k + 1 => sm f k + f k
theorem sm_le {f : Nat → Nat} {B : Nat} : ∀ n, (∀ k, k < n → f k < B) → sm f n ≤ n * B
  | 0, _ => by simp [sm]
  | n + 1, h => by
    have h1 := sm_le n (fun k hk => h k (by omega))
    have h2 := h n (by omega)
    rw [sm, Nat.succ_mul]; omega
