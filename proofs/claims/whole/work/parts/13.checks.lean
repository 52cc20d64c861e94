/-! What is decided by trying: inverses, roots, orders, squarings, the worth of boards. -/
def zI : Nat := 6149839975053679294961922118828781602691891000657268326765943922294887731281690520146580180387024566202970828681998058787495181452196372501353009755329486440013300182841055131325232833583091497164866927756863008868990133850177575436752981269440448667387417883660719415497037428322629691607048131859229520566399452039081301384146653459922776489813243959808630721551566495604700615827115267487975916377363961453400666983601780149607093189079198573627488605815685827180130393515186210340658488807120314952051835550655431937787328980034017346743743135042013635681755417283342969277988207907316147705408989542776461000960
def fiv (b : Nat) : Nat := Nat.land (Nat.shiftRight zI (Nat.mul 8 b)) 255
set_option maxRecDepth 100000 in
theorem ck_iv : alln 255 (fun b => Nat.beq (pw (b + 1) 254) (fiv (b + 1)) && (Nat.beq (fiv (fiv (b + 1))) (b + 1) && (Nat.ble 1 (fiv (b + 1)) && Nat.ble (fiv (b + 1)) 255))) = true := by decide +kernel
set_option maxRecDepth 100000 in
theorem ck_q : alln 255 (fun b => alln 256 (fun a => Nat.beq (fnp (fnp a (fiv (Nat.succ b))) (Nat.succ b)) a)) = true := by decide +kernel
theorem iv_all {b : Nat} (h0 : 0 < b) (h : b < 256) : pw b 254 = fiv b ∧ fiv (fiv b) = b ∧ 0 < fiv b ∧ fiv b < 256 := by
  have h1 := alln_at ck_iv (b - 1) (by omega)
  simp only [Bool.and_eq_true] at h1
  rw [show b - 1 + 1 = b by omega] at h1
  obtain ⟨h2, h3, h4, h5⟩ := h1
  exact ⟨Nat.eq_of_beq_eq_true h2, Nat.eq_of_beq_eq_true h3, Nat.le_of_ble_eq_true h4, by have := Nat.le_of_ble_eq_true h5; omega⟩
/-- the quotient times b is a -/
theorem qt_mul {a b : Nat} (ha : a < 256) (h0 : 0 < b) (h : b < 256) : np (qt a b) b = a := by
  have h1 := alln_at (alln_at ck_q (b - 1) (by omega)) a ha
  rw [show Nat.succ (b - 1) = b by omega] at h1
  rw [fnp_eq, fnp_eq] at h1
  rw [qt, (iv_all h0 h).1]
  exact Nat.eq_of_beq_eq_true h1
/-- there is one quotient -/
theorem qt_one {x b : Nat} (hx : x < 256) (h0 : 0 < b) (h : b < 256) : qt (np x b) b = x := by
  obtain ⟨e1, e2, e3, e4⟩ := iv_all h0 h
  have h1 := qt_mul hx e3 e4
  rw [qt, (iv_all e3 e4).1, e2] at h1
  rw [qt, e1]
  exact h1
theorem qt_lt {a b : Nat} (ha : a < 256) (h : b < 256) : qt a b < 256 := np_lt ha (pw_lt h)
set_option maxRecDepth 100000 in
theorem ck_rt : alln 256 (fun a => Nat.beq (np (rt a) (rt a)) a && Nat.beq (rt (np a a)) a) = true := by decide +kernel
theorem rt_sq {a : Nat} (ha : a < 256) : np (rt a) (rt a) = a := by
  have h1 := alln_at ck_rt a ha
  simp only [Bool.and_eq_true] at h1
  exact Nat.eq_of_beq_eq_true h1.1
theorem rt_one {a : Nat} (ha : a < 256) : rt (np a a) = a := by
  have h1 := alln_at ck_rt a ha
  simp only [Bool.and_eq_true] at h1
  exact Nat.eq_of_beq_eq_true h1.2
theorem rt_lt {a : Nat} (ha : a < 256) : rt a < 256 := pw_lt ha
set_option maxRecDepth 100000 in
theorem ck_od : alln 255 (fun a => osf 254 (Nat.succ a) (Nat.succ a)) = true := by decide +kernel
theorem od_ok {a : Nat} (h0 : 0 < a) (ha : a < 256) : osf 254 a a = true := by
  have h1 := alln_at ck_od (a - 1) (by omega)
  rw [show Nat.succ (a - 1) = a by omega] at h1
  exact h1
set_option maxRecDepth 100000 in
theorem ck_sq : alln 256 (fun a => ssf 7 (fnp a a) a) = true := by decide +kernel
theorem sq_ok {a : Nat} (ha : a < 256) : ssf 7 (np a a) a = true := by
  have h1 := alln_at ck_sq a ha
  rw [fnp_eq] at h1
  exact h1
theorem trf_lt : ∀ (k s x : Nat), s < 256 → x < 256 → trf k s x < 256
  | 0, _, _, h, _ => h
  | k + 1, s, x, h, hx => trf_lt k _ _ (zx8 h hx) (np_lt hx hx)
theorem tr_lt {a : Nat} (ha : a < 256) : tr a < 256 := trf_lt 8 0 a (by decide) ha
theorem odf_le : ∀ (d x a n : Nat), odf d x a n ≤ n + d
  | 0, _, _, _ => Nat.le_refl _
  | d + 1, x, a, n => by
    unfold odf
    split
    · omega
    · have := odf_le d (np x a) a (n + 1); omega
theorem sqf_le : ∀ (d x a n : Nat), sqf d x a n ≤ n + d
  | 0, _, _, _ => Nat.le_refl _
  | d + 1, x, a, n => by
    unfold sqf
    split
    · omega
    · have := sqf_le d (np x x) a (n + 1); omega
/-! the board's worth -/
theorem gwk_lt (b : Nat) : ∀ p, p ≤ 16 → gwk b p < 4
  | 0, _ => by show 0 < 4; decide
  | p + 1, h => by
    have h1 := gwk_lt b p (by omega)
    unfold gwk
    split
    · exact Nat.xor_lt_two_pow (n := 2) h1 (np_4 _ (by omega) _ (by omega))
    · exact h1
theorem gw_lt (b : Nat) : gw b < 4 := gwk_lt b 16 (Nat.le_refl _)
theorem xor4 (a b c d : Nat) : (a ^^^ b) ^^^ (c ^^^ d) = (a ^^^ c) ^^^ (b ^^^ d) := by
  rw [Nat.xor_assoc, Nat.xor_assoc, ← Nat.xor_assoc b c d, ← Nat.xor_assoc c b d, Nat.xor_comm b c]
theorem gwk_xor (a b : Nat) : ∀ p, gwk (a ^^^ b) p = gwk a p ^^^ gwk b p
  | 0 => by simp [gwk]
  | p + 1 => by
    have ih := gwk_xor a b p
    unfold gwk
    rw [Nat.testBit_xor, ih]
    generalize np (p / 4) (p % 4) = w
    generalize gwk a p = x
    generalize gwk b p = y
    cases a.testBit p <;> cases b.testBit p <;> simp
    · rw [Nat.xor_assoc]
    · rw [Nat.xor_assoc, Nat.xor_comm y w, ← Nat.xor_assoc]
    · rw [xor4, Nat.xor_self, Nat.xor_zero]
theorem gw_xor (a b : Nat) : gw (a ^^^ b) = gw a ^^^ gw b := gwk_xor a b 16
theorem gw_bit : ∀ x, x < 4 → ∀ y, y < 4 → gw (2 ^ (4 * x + y)) = np x y := by decide +kernel
def dlt (x y u v : Nat) : Nat := ((np x y ^^^ np u y) ^^^ np x v) ^^^ np u v
theorem gw_trn {b x y u v : Nat} (hx : x < 4) (hy : y < 4) (hu : u < 4) (hv : v < 4) : gw (trn b x y u v) = gw b ^^^ dlt x y u v := by
  unfold trn dlt
  rw [gw_xor, gw_xor, gw_xor, gw_xor, gw_bit x hx y hy, gw_bit u hu y hy, gw_bit x hx v hv, gw_bit u hu v hv]
  simp only [Nat.xor_assoc]
theorem dlt_ne : ∀ x, x < 4 → ∀ y, y < 4 → ∀ u, u < x → ∀ v, v < y → dlt x y u v ≠ 0 := by decide +kernel
/-- the coins that have plays -/
def zM : Nat := 61152
theorem zM_c : ∀ p, p < 16 → zM.testBit p = true ∨ np (p / 4) (p % 4) = 0 := by decide +kernel
theorem zM_b : ∀ x, x < 4 → ∀ y, y < 4 → 0 < x → 0 < y → zM.testBit (4 * x + y) = true := by decide +kernel
theorem gwk_M (b : Nat) : ∀ p, p ≤ 16 → gwk (b &&& zM) p = gwk b p
  | 0, _ => rfl
  | p + 1, h => by
    have ih := gwk_M b p (by omega)
    unfold gwk
    rw [ih, Nat.testBit_and]
    rcases zM_c p (by omega) with h1 | h1
    · rw [h1, Bool.and_true]
    · rw [h1, Nat.xor_zero]; simp
theorem gw_M (b : Nat) : gw (b &&& zM) = gw b := gwk_M b 16 (Nat.le_refl _)
def fplc (b : Nat) : Nat := Nat.add (Nat.add (Nat.land (Nat.div b 32) 7) (Nat.mul 8 (Nat.land (Nat.div b 512) 7))) (Nat.mul 64 (Nat.land (Nat.div b 8192) 7))
def fspr (q : Nat) : Nat := Nat.add (Nat.add (Nat.mul (Nat.mod q 8) 32) (Nat.mul (Nat.mod (Nat.div q 8) 8) 512)) (Nat.mul (Nat.div q 64) 8192)
theorem fplc_eq (b : Nat) : fplc b = plc b := rfl
theorem fspr_eq (q : Nat) : fspr q = spr q := rfl
set_option maxRecDepth 1000000 in
theorem ck_M : alln 256 (fun h => alln 256 (fun k => (fun b => Nat.beq (Nat.land b 61152) (fspr (fplc b)) && Nat.blt (fplc b) 512) (Nat.add (Nat.mul 256 h) k))) = true := by decide +kernel
theorem M_spr {b : Nat} (hb : b < 65536) : b &&& zM = spr (plc b) ∧ plc b < 512 := by
  have h1 := alln_at (alln_at ck_M (b / 256) (by omega)) (b % 256) (by omega)
  rw [show Nat.add (Nat.mul 256 (b / 256)) (b % 256) = b by show 256 * (b / 256) + b % 256 = b; omega] at h1
  simp only [Bool.and_eq_true] at h1
  refine ⟨Nat.eq_of_beq_eq_true h1.1, ?_⟩
  have := h1.2
  rw [Nat.blt_eq] at this
  exact this
theorem plc_spr : ∀ q, q < 512 → plc (spr q) = q ∧ spr q < 65536 := by decide +kernel
theorem plc_lt {b : Nat} (hb : b < 65536) : plc b < 512 := (M_spr hb).2
theorem gw_plc {b : Nat} (hb : b < 65536) : gw (spr (plc b)) = gw b := by rw [← (M_spr hb).1, gw_M]
theorem bit_plc {b x y : Nat} (hb : b < 65536) (hx : x < 4) (hy : y < 4) (h1 : 0 < x) (h2 : 0 < y) : (spr (plc b)).testBit (4 * x + y) = b.testBit (4 * x + y) := by
  rw [← (M_spr hb).1, Nat.testBit_and, zM_b x hx y hy h1 h2, Bool.and_true]
/-- from the canonical boards, every lesser worth is reached, and every play leads down -/
def anyn : Nat → (Nat → Bool) → Bool
  | 0, _ => false
  | n + 1, f => f n || anyn n f
theorem anyn_at {n : Nat} {f : Nat → Bool} (h : anyn n f = true) : ∃ i, i < n ∧ f i = true := by
  induction n with
  | zero => simp [anyn] at h
  | succ n ih =>
    simp only [anyn, Bool.or_eq_true] at h
    rcases h with h | h
    · exact ⟨n, by omega, h⟩
    · obtain ⟨i, h1, h2⟩ := ih h; exact ⟨i, by omega, h2⟩
set_option maxRecDepth 1000000 in
theorem ck_wb : alln 512 (fun q => alln (gw (spr q)) (fun t => anyn 4 (fun x => anyn 4 (fun y => anyn x (fun u => anyn y (fun v => (spr q).testBit (4 * x + y) && Nat.beq (gw (spr q) ^^^ dlt x y u v) t)))))) = true := by decide +kernel
theorem wb_ex {b t : Nat} (hb : b < 65536) (ht : t < gw b) : ∃ x y u v, x < 4 ∧ y < 4 ∧ u < x ∧ v < y ∧ b.testBit (4 * x + y) = true ∧ gw b ^^^ dlt x y u v = t := by
  have h1 := alln_at (alln_at ck_wb (plc b) (plc_lt hb)) t (by rw [gw_plc hb]; exact ht)
  obtain ⟨x, hx, h2⟩ := anyn_at h1
  obtain ⟨y, hy, h3⟩ := anyn_at h2
  obtain ⟨u, hu, h4⟩ := anyn_at h3
  obtain ⟨v, hv, h5⟩ := anyn_at h4
  simp only [Bool.and_eq_true] at h5
  rw [bit_plc hb hx hy (by omega) (by omega)] at h5
  refine ⟨x, y, u, v, hx, hy, hu, hv, h5.1, ?_⟩
  have := Nat.eq_of_beq_eq_true h5.2
  rw [gw_plc hb] at this
  exact this
set_option maxRecDepth 1000000 in
theorem ck_dn : alln 512 (fun q => alln 4 (fun x => alln 4 (fun y => alln x (fun u => alln y (fun v => !((spr q).testBit (4 * x + y)) || Nat.blt (plc (trn (spr q) x y u v)) q))))) = true := by decide +kernel
theorem and_xor_M (a b : Nat) : (a ^^^ b) &&& zM = (a &&& zM) ^^^ (b &&& zM) := by
  apply Nat.eq_of_testBit_eq
  intro i
  simp only [Nat.testBit_and, Nat.testBit_xor]
  cases a.testBit i <;> cases b.testBit i <;> cases zM.testBit i <;> rfl
theorem and_MM (a : Nat) : (a &&& zM) &&& zM = a &&& zM := by rw [Nat.and_assoc, Nat.and_self]
theorem trn_M (b x y u v : Nat) : trn b x y u v &&& zM = trn (b &&& zM) x y u v &&& zM := by
  unfold trn
  simp only [and_xor_M, and_MM]
theorem plc_M {b : Nat} (hb : b < 65536) : plc (b &&& zM) = plc b := by rw [(M_spr hb).1]; exact (plc_spr _ (plc_lt hb)).1
theorem and_M_lt {b : Nat} (hb : b < 65536) : b &&& zM < 65536 := Nat.lt_of_le_of_lt Nat.and_le_left hb
theorem trn_dn {b x y u v : Nat} (hb : b < 65536) (hx : x < 4) (hy : y < 4) (hu : u < x) (hv : v < y) (ht : b.testBit (4 * x + y) = true) : plc (trn b x y u v) < plc b := by
  have h1 := alln_at (alln_at (alln_at (alln_at (alln_at ck_dn (plc b) (plc_lt hb)) x hx) y hy) u hu) v hv
  rw [bit_plc hb hx hy (by omega) (by omega), ht] at h1
  simp only [Bool.not_true, Bool.false_or] at h1
  rw [Nat.blt_eq] at h1
  have e1 : plc (trn b x y u v) = plc (trn (spr (plc b)) x y u v) := by
    have hu4 : u < 4 := by omega
    have hv4 : v < 4 := by omega
    rw [← plc_M (trn_lt hb hx hy hu4 hv4), trn_M, (M_spr hb).1, plc_M (trn_lt (plc_spr _ (plc_lt hb)).2 hx hy hu4 hv4)]
  rw [e1]; exact h1
