/-! The memo of the worths. -/
def pv (b x y u v : Nat) : Nat → List Nat
  | 0 => []
  | n + 1 => trn b x y u v :: pv b x y u (v + 1) n
def pu (b x y u : Nat) : Nat → List Nat
  | 0 => []
  | n + 1 => pv b x y u 0 y ++ pu b x y (u + 1) n
def puu (b x y u n : Nat) : List Nat := if b.testBit (4 * x + y) = true then pu b x y u n else []
def py (b x y : Nat) : Nat → List Nat
  | 0 => []
  | n + 1 => puu b x y 0 x ++ py b x (y + 1) n
def px (b x : Nat) : Nat → List Nat
  | 0 => []
  | n + 1 => py b x 1 3 ++ px b (x + 1) n
theorem px_s {b x : Nat} (h : x < 4) : px b x (4 - x) = py b x 1 (4 - 1) ++ px b (x + 1) (4 - (x + 1)) := by
  rw [show 4 - x = (4 - (x + 1)) + 1 by omega]; rfl
theorem px_e {b x : Nat} (h : 4 ≤ x) : px b x (4 - x) = [] := by rw [show 4 - x = 0 by omega]; rfl
theorem py_s {b x y : Nat} (h : y < 4) (R : List Nat) : py b x y (4 - y) ++ R = puu b x y 0 (x - 0) ++ (py b x (y + 1) (4 - (y + 1)) ++ R) := by
  rw [show 4 - y = (4 - (y + 1)) + 1 by omega]; exact List.append_assoc _ _ _
theorem py_e {b x y : Nat} (h : 4 ≤ y) (R : List Nat) : py b x y (4 - y) ++ R = R := by rw [show 4 - y = 0 by omega]; rfl
theorem puu_s {b x y u : Nat} (hu : u < x) (ht : b.testBit (4 * x + y) = true) (R : List Nat) : puu b x y u (x - u) ++ R = pv b x y u 0 (y - 0) ++ (puu b x y (u + 1) (x - (u + 1)) ++ R) := by
  unfold puu
  rw [if_pos ht, if_pos ht, show x - u = (x - (u + 1)) + 1 by omega]; exact List.append_assoc _ _ _
theorem puu_e {b x y u : Nat} (hu : x ≤ u) (R : List Nat) : puu b x y u (x - u) ++ R = R := by
  unfold puu
  rw [show x - u = 0 by omega]; split <;> rfl
theorem puu_f {b x y u n : Nat} (ht : b.testBit (4 * x + y) = false) (R : List Nat) : puu b x y u n ++ R = R := by
  unfold puu
  rw [if_neg (by rw [ht]; decide)]; rfl
theorem pv_s {b x y u v : Nat} (h : v < y) (R : List Nat) : pv b x y u v (y - v) ++ R = trn b x y u v :: (pv b x y u (v + 1) (y - (v + 1)) ++ R) := by
  rw [show y - v = (y - (v + 1)) + 1 by omega]; rfl
theorem pv_e {b x y u v : Nat} (h : y ≤ v) (R : List Nat) : pv b x y u v (y - v) ++ R = R := by rw [show y - v = 0 by omega]; rfl
theorem pv_mem {b x y u c : Nat} : ∀ n v, c ∈ pv b x y u v n ↔ ∃ k, v ≤ k ∧ k < v + n ∧ c = trn b x y u k
  | 0, v => ⟨fun h => (by cases h), fun ⟨k, h1, h2, _⟩ => by omega⟩
  | n + 1, v => by
    rw [pv, List.mem_cons, pv_mem n (v + 1)]
    constructor
    · rintro (h | ⟨k, h1, h2, h3⟩)
      · exact ⟨v, by omega, by omega, h⟩
      · exact ⟨k, by omega, by omega, h3⟩
    · rintro ⟨k, h1, h2, h3⟩
      by_cases q : k = v
      · left; rw [h3, q]
      · exact Or.inr ⟨k, by omega, by omega, h3⟩
theorem pu_mem {b x y c : Nat} : ∀ n u, c ∈ pu b x y u n ↔ ∃ k, u ≤ k ∧ k < u + n ∧ ∃ v, v < y ∧ c = trn b x y k v
  | 0, u => ⟨fun h => (by cases h), fun ⟨k, h1, h2, _⟩ => by omega⟩
  | n + 1, u => by
    rw [pu, List.mem_append, pu_mem n (u + 1), pv_mem]
    constructor
    · rintro (⟨v, _, h1, h2⟩ | ⟨k, h1, h2, h3⟩)
      · exact ⟨u, by omega, by omega, v, by omega, h2⟩
      · exact ⟨k, by omega, by omega, h3⟩
    · rintro ⟨k, h1, h2, v, h3, h4⟩
      by_cases q : k = u
      · exact Or.inl ⟨v, by omega, by omega, by rw [h4, q]⟩
      · exact Or.inr ⟨k, by omega, by omega, v, h3, h4⟩
theorem py_mem {b x c : Nat} : ∀ n y, c ∈ py b x y n ↔ ∃ k, y ≤ k ∧ k < y + n ∧ b.testBit (4 * x + k) = true ∧ ∃ u v, u < x ∧ v < k ∧ c = trn b x k u v
  | 0, y => ⟨fun h => (by cases h), fun ⟨k, h1, h2, _⟩ => by omega⟩
  | n + 1, y => by
    rw [py, List.mem_append, py_mem n (y + 1), puu]
    constructor
    · rintro (h | ⟨k, h1, h2, h3⟩)
      · split at h
        · rename_i ht
          obtain ⟨u, _, h1, v, h2, h3⟩ := (pu_mem _ _).mp h
          exact ⟨y, by omega, by omega, ht, u, v, by omega, h2, h3⟩
        · cases h
      · exact ⟨k, by omega, by omega, h3⟩
    · rintro ⟨k, h1, h2, ht, u, v, h3, h4, h5⟩
      by_cases q : k = y
      · subst q
        rw [if_pos ht]
        exact Or.inl ((pu_mem _ _).mpr ⟨u, by omega, by omega, v, h4, h5⟩)
      · exact Or.inr ⟨k, by omega, by omega, ht, u, v, h3, h4, h5⟩
theorem px_mem {b c : Nat} : ∀ n x, c ∈ px b x n ↔ ∃ k, x ≤ k ∧ k < x + n ∧ ∃ y u v, 1 ≤ y ∧ y < 4 ∧ u < k ∧ v < y ∧ b.testBit (4 * k + y) = true ∧ c = trn b k y u v
  | 0, x => ⟨fun h => (by cases h), fun ⟨k, h1, h2, _⟩ => by omega⟩
  | n + 1, x => by
    rw [px, List.mem_append, px_mem n (x + 1), py_mem]
    constructor
    · rintro (⟨y, h1, h2, ht, u, v, h3, h4, h5⟩ | ⟨k, h1, h2, h3⟩)
      · exact ⟨x, by omega, by omega, y, u, v, h1, by omega, h3, h4, ht, h5⟩
      · exact ⟨k, by omega, by omega, h3⟩
    · rintro ⟨k, h1, h2, y, u, v, g1, g2, g3, g4, g5, g6⟩
      by_cases q : k = x
      · subst q
        exact Or.inl ⟨y, g1, by omega, g5, u, v, g3, g4, g6⟩
      · exact Or.inr ⟨k, by omega, by omega, y, u, v, g1, g2, g3, g4, g5, g6⟩
def wfo (g : Nat → (Nat → Nat) → Nat → Nat) : List Nat → (Nat → Nat) → Nat → Nat
  | [], w => w
  | c :: r, w => wfo g r (g c w)
def cfo (g : Nat → (Nat → Nat) → Nat → Nat) (h : Nat → (Nat → Nat) → Nat) : List Nat → (Nat → Nat) → Nat
  | [], _ => 0
  | c :: r, w => h c w + cfo g h r (g c w)
def wmo : Nat → Nat → (Nat → Nat) → Nat → Nat
  | 0, _, w => w
  | d + 1, b, w => if 0 < w (plc b) then w else va_up (wfo (wmo d) (px b 1 3) w) (plc b) (gw b + 1)
def wco : Nat → Nat → (Nat → Nat) → Nat
  | 0, _, _ => 0
  | d + 1, b, w => if 0 < w (plc b) then 0 else 1 + cfo (wmo d) (wco d) (px b 1 3) w
def winv (w : Nat → Nat) : Prop := ∀ q, q < 512 → w q = 0 ∨ w q = gw (spr q) + 1
theorem px_ok {b c : Nat} (hb : b < 65536) (h : c ∈ px b 1 3) : c < 65536 ∧ plc c < plc b ∧ gw c ≠ gw b := by
  obtain ⟨x, h1, h2, y, u, v, g1, g2, g3, g4, g5, rfl⟩ := (px_mem _ _).mp h
  refine ⟨trn_lt hb (by omega) g2 (by omega) (by omega), trn_dn hb (by omega) g2 g3 g4 g5, fun e => ?_⟩
  rw [gw_trn (by omega) g2 (by omega) (by omega)] at e
  have e2 := congrArg (fun z => gw b ^^^ z) e
  simp only [← Nat.xor_assoc, Nat.xor_self, Nat.zero_xor] at e2
  exact dlt_ne x (by omega) y g2 u g3 v g4 e2
theorem wfo_inv {d : Nat} (ih : ∀ b w, b < 65536 → winv w → winv (wmo d b w)) : ∀ (r : List Nat) (w : Nat → Nat), (∀ c ∈ r, c < 65536) → winv w → winv (wfo (wmo d) r w)
  | [], _, _, h => h
  | c :: r, w, hr, h => wfo_inv ih r _ (fun c2 h2 => hr c2 (List.mem_cons_of_mem _ h2)) (ih c w (hr c List.mem_cons_self) h)
theorem wmo_inv : ∀ d b w, b < 65536 → winv w → winv (wmo d b w)
  | 0, _, _, _, h => h
  | d + 1, b, w, hb, h => by
    unfold wmo
    split
    · exact h
    · have h2 := wfo_inv (wmo_inv d) (px b 1 3) w (fun c hc => (px_ok hb hc).1) h
      intro q hq
      by_cases e : q = plc b
      · rw [e, z_up_eq, gw_plc hb]; exact Or.inr rfl
      · rw [z_up_ne e]; exact h2 q hq
theorem wfo_hi {d q : Nat} (ih : ∀ b w, b < 65536 → plc b < q → wmo d b w q = w q) : ∀ (r : List Nat) (w : Nat → Nat), (∀ c ∈ r, c < 65536 ∧ plc c < q) → wfo (wmo d) r w q = w q
  | [], _, _ => rfl
  | c :: r, w, hr => by
    rw [wfo, wfo_hi ih r _ (fun c2 h2 => hr c2 (List.mem_cons_of_mem _ h2))]
    exact ih c w (hr c List.mem_cons_self).1 (hr c List.mem_cons_self).2
theorem wmo_hi : ∀ (d q b : Nat) (w : Nat → Nat), b < 65536 → plc b < q → wmo d b w q = w q
  | 0, _, _, _, _, _ => rfl
  | d + 1, q, b, w, hb, hq => by
    unfold wmo
    split
    · rfl
    · rw [z_up_ne (by omega)]
      exact wfo_hi (wmo_hi d q) _ _ (fun c hc => ⟨(px_ok hb hc).1, by have := (px_ok hb hc).2.1; omega⟩)
/-- how many worths are there -/
def fzm (w : Nat → Nat) : Nat := cn (fun q => decide (0 < w q)) 512
theorem cn_one {f g : Nat → Bool} {i : Nat} (h1 : f i = false) (h2 : g i = true) (h3 : ∀ j, j ≠ i → g j = f j) : ∀ n, i < n → cn g n = cn f n + 1
  | 0, h => by omega
  | n + 1, h => by
    rw [cn, cn]
    by_cases e : n = i
    · subst e
      rw [h1, h2, cn_cong (fun k hk => h3 k (by omega))]; rfl
    · rw [cn_one h1 h2 h3 n (by omega), h3 n e]; omega
theorem cfo_fz {d : Nat} (ih : ∀ b w, b < 65536 → fzm (wmo d b w) = fzm w + wco d b w) : ∀ (r : List Nat) (w : Nat → Nat), (∀ c ∈ r, c < 65536) → fzm (wfo (wmo d) r w) = fzm w + cfo (wmo d) (wco d) r w
  | [], _, _ => (Nat.add_zero _).symm
  | c :: r, w, hr => by
    rw [wfo, cfo, cfo_fz ih r _ (fun c2 h2 => hr c2 (List.mem_cons_of_mem _ h2)), ih c w (hr c List.mem_cons_self)]; omega
theorem wco_fz : ∀ (d b : Nat) (w : Nat → Nat), b < 65536 → fzm (wmo d b w) = fzm w + wco d b w
  | 0, _, _, _ => (Nat.add_zero _).symm
  | d + 1, b, w, hb => by
    unfold wmo wco
    split
    · exact (Nat.add_zero _).symm
    · rename_i h0
      have h1 := cfo_fz (wco_fz d) (px b 1 3) w (fun c hc => (px_ok hb hc).1)
      have h2 : wfo (wmo d) (px b 1 3) w (plc b) = w (plc b) := wfo_hi (wmo_hi d (plc b)) _ _ (fun c hc => ⟨(px_ok hb hc).1, (px_ok hb hc).2.1⟩)
      have h3 : fzm (va_up (wfo (wmo d) (px b 1 3) w) (plc b) (gw b + 1)) = fzm (wfo (wmo d) (px b 1 3) w) + 1 := by
        refine cn_one (i := plc b) ?_ ?_ ?_ 512 (plc_lt hb)
        · show decide (0 < wfo (wmo d) (px b 1 3) w (plc b)) = false
          rw [h2]; exact decide_eq_false h0
        · show decide (0 < va_up _ _ _ _) = true
          rw [z_up_eq]; exact decide_eq_true (by omega)
        · intro j hj
          show decide (0 < va_up _ _ _ _) = _
          rw [z_up_ne hj]
      rw [h3, h1]; omega
/-- on the way through the plays: what is left of them -/
def WIV (d b : Nat) (w g : Nat → Nat) (n : Nat) (f : Nat → Bool) (r : List Nat) : Prop :=
  wfo (wmo d) r g = wfo (wmo d) (px b 1 3) w ∧ n + cfo (wmo d) (wco d) r g = cfo (wmo d) (wco d) (px b 1 3) w ∧ winv g ∧ (∀ k, f k = true → k ≠ gw b) ∧ (∀ c, c ∈ px b 1 3 → f (gw c) = true ∨ c ∈ r) ∧ ∀ c, c ∈ r → c ∈ px b 1 3
theorem WIV.rf {d b : Nat} {w : Nat → Nat} (h : winv w) : WIV d b w w 0 (fun _ => false) (px b 1 3) :=
  ⟨rfl, Nat.zero_add _, h, fun _ q => (by cases q), fun _ q => Or.inr q, fun _ q => q⟩
theorem WIV.of {d b n : Nat} {w g : Nat → Nat} {f : Nat → Bool} {r r' : List Nat} (h : WIV d b w g n f r) (e : r = r') : WIV d b w g n f r' := e ▸ h
theorem WIV.step {d b n c : Nat} {w g : Nat → Nat} {f : Nat → Bool} {r : List Nat} (hb : b < 65536) (h : WIV d b w g n f (c :: r)) : WIV d b w (wmo d c g) (n + wco d c g) (va_up f (gw c) true) r := by
  obtain ⟨h1, h2, h3, h4, h5, h6⟩ := h
  have hc := px_ok hb (h6 c List.mem_cons_self)
  refine ⟨h1, by rw [← h2, cfo]; omega, wmo_inv d c g hc.1 h3, fun k hk => ?_, fun c2 hc2 => ?_, fun c2 hc2 => h6 c2 (List.mem_cons_of_mem _ hc2)⟩
  · by_cases e : k = gw c
    · rw [e]; exact hc.2.2
    · rw [z_up_ne e] at hk; exact h4 k hk
  · by_cases e : gw c2 = gw c
    · rw [e]; exact Or.inl (z_up_eq ..)
    · rw [z_up_ne e]
      rcases h5 c2 hc2 with q | q
      · exact Or.inl q
      · rcases List.mem_cons.mp q with q | q
        · rw [q] at e; exact absurd rfl e
        · exact Or.inr q
theorem WIV.at {d b n c : Nat} {w g : Nat → Nat} {f : Nat → Bool} {r : List Nat} (h : WIV d b w g n f (c :: r)) : n + wco d c g ≤ cfo (wmo d) (wco d) (px b 1 3) w := by
  rw [← h.2.1, cfo]; omega
theorem WIV.le {d b n : Nat} {w g : Nat → Nat} {f : Nat → Bool} {r : List Nat} (h : WIV d b w g n f r) : n ≤ cfo (wmo d) (wco d) (px b 1 3) w := by
  rw [← h.2.1]; omega
theorem WIV.end {d b n : Nat} {w g : Nat → Nat} {f : Nat → Bool} (hb : b < 65536) (h : WIV d b w g n f []) : n = cfo (wmo d) (wco d) (px b 1 3) w ∧ g = wfo (wmo d) (px b 1 3) w ∧ lo f 40 = gw b := by
  obtain ⟨h1, h2, h3, h4, h5, h6⟩ := h
  refine ⟨h2, h1, lo_eq (by have := gw_lt b; omega) (fun i hi => ?_) (fun _ => ?_)⟩
  · obtain ⟨x, y, u, v, g1, g2, g3, g4, g5, g6⟩ := wb_ex hb hi
    have hm : trn b x y u v ∈ px b 1 3 := (px_mem _ _).mpr ⟨x, by omega, by omega, y, u, v, by omega, g2, g3, g4, g5, rfl⟩
    rcases h5 _ hm with q | q
    · rw [gw_trn g1 g2 (by omega) (by omega), g6] at q; exact q
    · cases q
  · cases e : f (gw b) with
    | false => rfl
    | true => exact absurd rfl (h4 _ e)
theorem nX6_worthOf_inX6 : ∀ w ∈ u_ws RX6 TX6 8, w ∈ wsX6_worthOf := by decide +kernel
abbrev rm_c_X6_worthOf (dd b : Nat) (wf : Nat → Nat) : Room := { frames := 6 + dd, cells := (wco dd b wf), slots := (40 * wco dd b wf), locals := 160 + 27 * dd }
abbrev q_c_X6_worthOf (D : va_G) (sz : Nat) (mo : Nat) (ra : Nat) (ca : Nat) (ha : Nat) (ba : Nat) (wa : Nat) (kp : Nat) (hd : Nat) (th : Nat) (kw : ClassId) (wf : Nat → Nat) (d : Nat) (dd : Nat) (b : Nat) : Array Value → State → Outcome → State → Prop := va_Qi (fun r (_ : Unit) => r = (nI (gw b))) (fun (_ : Unit) t => va_P D vwCl [(mo, .inr (8, [.int (nI th), .ref ra, .ref ca, .ref ha, .int (nI kp), .ref ba, .int (nI hd), .ref wa])), (wa, .inl (kw, 512, .inl (aN (wmo dd b wf))))] t.heap ∧ va_K D vwCl [(kw, .int)] t ∧ va_D (va_A [(mo, .inr (8, [.int (nI th), .ref ra, .ref ca, .ref ha, .int (nI kp), .ref ba, .int (nI hd), .ref wa])), (wa, .inl (kw, 512, .inl (aN wf)))] sz) [(mo, .inr (8, [.int (nI th), .ref ra, .ref ca, .ref ha, .int (nI kp), .ref ba, .int (nI hd), .ref wa])), (wa, .inl (kw, 512, .inl (aN (wmo dd b wf))))]) (va_A [(mo, .inr (8, [.int (nI th), .ref ra, .ref ca, .ref ha, .int (nI kp), .ref ba, .int (nI hd), .ref wa])), (wa, .inl (kw, 512, .inl (aN wf)))] sz)
set_option maxHeartbeats 4000000 in
set_option maxRecDepth 100000 in
theorem c_X6_worthOf (l : Launch) (D : va_G) (sz : Nat) (mo : Nat) (ra : Nat) (ca : Nat) (ha : Nat) (ba : Nat) (wa : Nat) (kp : Nat) (hd : Nat) (th : Nat) (kw : ClassId) (wf : Nat → Nat) (d : Nat) (dd : Nat) (b : Nat) (hbb : b < 65536) (hpl : plc b < dd) (hwi : winv wf) (hdd : dd = d + 1) (ih : ∀ (sz : Nat) (mo : Nat) (ra : Nat) (ca : Nat) (ha : Nat) (ba : Nat) (wa : Nat) (kp : Nat) (hd : Nat) (th : Nat) (kw : ClassId) (wf : Nat → Nat) (b : Nat), b < 65536 → plc b < d → winv wf → Met l yX6_worthOf wsX6_worthOf (rm_c_X6_worthOf d b wf) (va_Pc [.ref mo, .int (nI b)] (fun U => U.heap.size = sz ∧ va_P D vwCl [(mo, .inr (8, [.int (nI th), .ref ra, .ref ca, .ref ha, .int (nI kp), .ref ba, .int (nI hd), .ref wa])), (wa, .inl (kw, 512, .inl (aN wf)))] U.heap ∧ va_K D vwCl [(kw, .int)] U ∧ va_D (fun _ => True) [(mo, .inr (8, [.int (nI th), .ref ra, .ref ca, .ref ha, .int (nI kp), .ref ba, .int (nI hd), .ref wa])), (wa, .inl (kw, 512, .inl (aN wf)))])) (q_c_X6_worthOf D sz mo ra ca ha ba wa kp hd th kw wf 0 d b) (wco d b wf) (40 * wco d b wf) (va_A [(mo, .inr (8, [.int (nI th), .ref ra, .ref ca, .ref ha, .int (nI kp), .ref ba, .int (nI hd), .ref wa])), (wa, .inl (kw, 512, .inl (aN wf)))] sz)) : Met l yX6_worthOf wsX6_worthOf (rm_c_X6_worthOf dd b wf) (va_Pc [.ref mo, .int (nI b)] (fun U => U.heap.size = sz ∧ va_P D vwCl [(mo, .inr (8, [.int (nI th), .ref ra, .ref ca, .ref ha, .int (nI kp), .ref ba, .int (nI hd), .ref wa])), (wa, .inl (kw, 512, .inl (aN wf)))] U.heap ∧ va_K D vwCl [(kw, .int)] U ∧ va_D (fun _ => True) [(mo, .inr (8, [.int (nI th), .ref ra, .ref ca, .ref ha, .int (nI kp), .ref ba, .int (nI hd), .ref wa])), (wa, .inl (kw, 512, .inl (aN wf)))])) (q_c_X6_worthOf D sz mo ra ca ha ba wa kp hd th kw wf d dd b) (wco dd b wf) (40 * wco dd b wf) (va_A [(mo, .inr (8, [.int (nI th), .ref ra, .ref ca, .ref ha, .int (nI kp), .ref ba, .int (nI hd), .ref wa])), (wa, .inl (kw, 512, .inl (aN wf)))] sz) := by
  refine Met.ofW (cc := cX6_worthOf) (maxL := 8) (ret := (some .int)) (by decide) rfl ?_
  intro p e s m args below meth c s₁ B hml hv
  obtain ⟨hargs, hsz, hP, hK, hD0⟩ := hv
  have hx := B.exec
  have hb := B.bytes
  have hr := B.returns
  have hts := atoms_spec (ws := wsX6_worthOf) B.pre
  have hown : s.vm.findClass RX6 = some m.cls := findClass_of_methodNamed B.named
  have hlocks := B.notSynchronized
  subst hsz
  have hD := hD0.self (sz := s.heap.size)
  generalize hAe : va_A [(mo, .inr (8, [.int (nI th), .ref ra, .ref ca, .ref ha, .int (nI kp), .ref ba, .int (nI hd), .ref wa])), (wa, .inl (kw, 512, .inl (aN wf)))] s.heap.size = A at hD ⊢
  have hA : ∀ q : Nat, s.heap.size ≤ q → A q := fun q h => by rw [← hAe]; exact Or.inr h
  have hS : va_S A s.heap s.heap [] := va_S.rf
  have hl := lv_entry ([.ref mo, .int (nI b)]) (n := 8) (Nat.le_of_ble_eq_true rfl)
  refine W.eq (g2 := F0 m 0 (lg_sl ([.ref mo, .int (nI b)]) ++ List.replicate (8 - (lg_sl ([.ref mo, .int (nI b)])).length) Slot.unset).toArray []) (by rw [hargs]; exact lg_entry_eq _ _ _) ?_
  generalize (lg_sl ([.ref mo, .int (nI b)]) ++ List.replicate (8 - (lg_sl ([.ref mo, .int (nI b)])).length) Slot.unset).toArray = ls at hl ⊢
  have hl : lv_has ls 8 [(0, .ref mo), (1, .int (nI b))] := hl
  refine lv_iload_n hx hb dX6_worthOf_0 rfl (lv_at hl 1 rfl) ?_
  refine lv_iconst (v := nI 5) hx hb dX6_worthOf_1 zki_5 ?_
  refine z_shr hx hb (by omega) (by omega) dX6_worthOf_2 ?_
  refine lv_bipush (v := nI 7) hx hb dX6_worthOf_3 zkb_7 ?_
  refine z_and hx hb dX6_worthOf_5 ?_
  refine lv_bipush (v := nI 8) hx hb dX6_worthOf_6 zkb_8 ?_
  refine lv_iload_n hx hb dX6_worthOf_8 rfl (lv_at hl 1 rfl) ?_
  refine lv_bipush (v := nI 9) hx hb dX6_worthOf_9 zkb_9 ?_
  refine z_shr hx hb (by omega) (by omega) dX6_worthOf_11 ?_
  refine lv_bipush (v := nI 7) hx hb dX6_worthOf_12 zkb_7 ?_
  refine z_and hx hb dX6_worthOf_14 ?_
  refine z_mul hx hb dX6_worthOf_15 ?_
  refine z_add hx hb dX6_worthOf_16 ?_
  refine lv_bipush (v := nI 64) hx hb dX6_worthOf_17 zkb_64 ?_
  refine lv_iload_n hx hb dX6_worthOf_19 rfl (lv_at hl 1 rfl) ?_
  refine lv_bipush (v := nI 13) hx hb dX6_worthOf_20 zkb_13 ?_
  refine z_shr hx hb (by omega) (by omega) dX6_worthOf_22 ?_
  refine lv_bipush (v := nI 7) hx hb dX6_worthOf_23 zkb_7 ?_
  refine z_and hx hb dX6_worthOf_25 ?_
  refine z_mul hx hb dX6_worthOf_26 ?_
  refine z_add hx hb dX6_worthOf_27 ?_
  refine zt (show (nI ((((b / 2 ^ 5) &&& 7) + (8 * ((b / 2 ^ 9) &&& 7))) + (64 * ((b / 2 ^ 13) &&& 7)))) = (nI (plc b)) from rfl) ?_
  have hq9 := plc_lt hbb
  have hg9 := gw_lt b
  have hw9 : wf (plc b) = 0 ∨ wf (plc b) = gw b + 1 := by have := hwi _ hq9; rw [gw_plc hbb] at this; exact this
  refine lv_istore_n (lv' := [(2, .int (nI (plc b))), (0, .ref mo), (1, .int (nI b))]) hx hb dX6_worthOf_28 rfl hl (by decide) rfl (fun ls hl => ?_)
  refine lv_aload_n hx hb dX6_worthOf_29 rfl (lv_at hl 1 rfl) ?_
  refine va_get (D := D) (ci := 8) (v := .ref wa) (C := RX6) (T := TX6) (N := 8) hx hb hts nX6_worthOf_inX6 hown hK hP 0 rfl rfl 7 (by decide) (hts (.fieldLink RX6 23 "GamefieldModel" "worths" "[I") (by decide +kernel)) (fun _ h9 => h9) rfl dX6_worthOf_30 ?_
  refine lv_iload_n hx hb dX6_worthOf_33 rfl (lv_at hl 0 rfl) ?_
  refine z_iald hx hb hK hP 1 0 rfl rfl (by omega) (by decide) dX6_worthOf_34 ?_
  refine z_fle (tgt := 47) hx hb (by omega) dX6_worthOf_35 (by decide) (fun c_35 => ?_) (fun c_35 => ?_)
  · have hco : wco dd b wf = 1 + cfo (wmo d) (wco d) (px b 1 3) wf := by rw [hdd, wco, if_neg (by omega)]
    refine lv_bipush (v := nI 40) hx hb dX6_worthOf_47 zkb_40 ?_
    refine va_newa (atype := .boolean) (N' := 40) (a0 := (40, .inl (aB (fun _ => false)))) hx hb (hts (.arrayClass .boolean) (by decide +kernel)) rfl hK hP hD hS hA (fun _ => rfl) (z_npos (by decide)) (nI_clamp (by decide)) (by decide) (z_room (c := (wco dd b wf)) rfl (by omega)) (z_room (c := (40 * wco dd b wf)) rfl (by omega)) dX6_worthOf_49 (fun q49 cA49 H hK hP hD hS => ?_)
    have hK : va_K D vwCl [(kw, .int), (cA49, .boolean)] s := hK
    have hP : va_P D vwCl [(mo, .inr (8, [.int (nI th), .ref ra, .ref ca, .ref ha, .int (nI kp), .ref ba, .int (nI hd), .ref wa])), (wa, .inl (kw, 512, .inl (aN wf))), (q49, .inl (cA49, 40, .inl (aB (fun _ => false))))] H := hP
    have hD : va_D A [(mo, .inr (8, [.int (nI th), .ref ra, .ref ca, .ref ha, .int (nI kp), .ref ba, .int (nI hd), .ref wa])), (wa, .inl (kw, 512, .inl (aN wf))), (q49, .inl (cA49, 40, .inl (aB (fun _ => false))))] := hD
    refine W.widen (k := 1) (n := 40) (Nat.le_of_ble_eq_true rfl) (Nat.le_of_ble_eq_true rfl) ?_
    refine lv_astore_n (lv' := [(3, .ref q49), (2, .int (nI (plc b))), (0, .ref mo), (1, .int (nI b))]) hx hb dX6_worthOf_51 rfl hl (by decide) rfl (fun ls hl => ?_)
    refine lv_iconst (v := nI 1) hx hb dX6_worthOf_52 zki_1 ?_
    refine lv_istore (lv' := [(4, .int (nI 1)), (3, .ref q49), (2, .int (nI (plc b))), (0, .ref mo), (1, .int (nI b))]) hx hb dX6_worthOf_53 hl (by decide) rfl (fun ls hl => ?_)
    have cut_55 : ∀ (nn9 : Nat) (x : Nat) (wg1 : Nat → Nat) (sp1 : Nat) (mf1 : Nat → Bool) (hx1 : 1 ≤ x) (hx9 : x ≤ 4) (hI1 : WIV d b wf wg1 sp1 mf1 (px b x (4 - x))) (hn9 : 4 - x < nn9) (H : Heap) (locs : List Loc) (hP : va_P D vwCl [(mo, .inr (8, [.int (nI th), .ref ra, .ref ca, .ref ha, .int (nI kp), .ref ba, .int (nI hd), .ref wa])), (wa, .inl (kw, 512, .inl (aN wg1))), (q49, .inl (cA49, 40, .inl (aB mf1)))] H) (hD : va_D A [(mo, .inr (8, [.int (nI th), .ref ra, .ref ca, .ref ha, .int (nI kp), .ref ba, .int (nI hd), .ref wa])), (wa, .inl (kw, 512, .inl (aN wg1))), (q49, .inl (cA49, 40, .inl (aB mf1)))]) (hS : va_S A s.heap H locs) (ls : Array Slot) (hl : lv_has ls 8 [(0, .ref mo), (1, .int (nI b)), (2, .int (nI (plc b))), (3, .ref q49), (4, .int (nI x))]), W p l e (headSpec wsX6_worthOf (rm_c_X6_worthOf dd b wf)).room s m args below meth c H locs (1 + sp1) (40 * (1 + sp1)) (MQ below (q_c_X6_worthOf D s.heap.size mo ra ca ha ba wa kp hd th kw wf d dd b) args s (wco dd b wf) (40 * wco dd b wf) A) (F0 m 55 ls []) := by
      intro nn9
      induction nn9 with
      | zero => intro x wg1 sp1 mf1 hx1 hx9 hI1 hn9; exact absurd hn9 (Nat.not_lt_zero _)
      | succ nn9 ih_55 =>
        intro x wg1 sp1 mf1 hx1 hx9 hI1 hn9 H locs hP hD hS ls hl
        refine lv_iload hx hb dX6_worthOf_55 (lv_at hl 4 rfl) ?_
        refine lv_iconst (v := nI 4) hx hb dX6_worthOf_57 zki_4 ?_
        refine z_cge (tgt := 144) hx hb (by omega) (by omega) dX6_worthOf_58 (by decide) (fun c_58 => ?_) (fun c_58 => ?_)
        · have hI1e := (hI1.of (px_e c_58)).end hbb
          refine lv_aload_n hx hb dX6_worthOf_144 rfl (lv_at hl 3 rfl) ?_
          refine z_ci (va_runS (As := [.ref q49]) (rest := []) ⟨hx, hb, hml, hown, hts⟩ (c_X6_leastOutOf_40 l D q49 cA49 mf1 ) (va_cwS 1 hts gX6_worthOf_X6_leastOutOf rfl rfl rfl (by decide +kernel) ⟨(by omega : 0 + 1 ≤ 6 + dd), (by omega : 8 + (2 + 11) + 0 ≤ 160 + 27 * dd)⟩) ⟨(z_fb1), fun U hU hW => ⟨rfl, by rw [hU]; exact (hP.sub (ws' := [(q49, .inl (cA49, 40, .inl (aB mf1)))]) [2] rfl), va_K.moved hW.alike (hK.sub [1] rfl)⟩⟩ rfl rfl hl.1 rfl (lv_room (Nat.le_of_ble_eq_true rfl)) dX6_worthOf_145 ⟨z_room (c := (wco dd b wf)) rfl (by omega), z_room (c := (40 * wco dd b wf)) rfl (by omega)⟩) (fun r145 e145 => ?_)
          subst e145
          refine zt (show nI (lo mf1 40) = nI (gw b) from congrArg nI hI1e.2.2) ?_
          refine lv_istore (lv' := [(4, .int (nI (gw b))), (0, .ref mo), (1, .int (nI b)), (2, .int (nI (plc b))), (3, .ref q49)]) hx hb dX6_worthOf_148 hl (by decide) rfl (fun ls hl => ?_)
          refine lv_aload_n hx hb dX6_worthOf_150 rfl (lv_at hl 1 rfl) ?_
          refine va_get (D := D) (ci := 8) (v := .ref wa) (C := RX6) (T := TX6) (N := 8) hx hb hts nX6_worthOf_inX6 hown hK hP 0 rfl rfl 7 (by decide) (hts (.fieldLink RX6 23 "GamefieldModel" "worths" "[I") (by decide +kernel)) (fun _ h9 => h9) rfl dX6_worthOf_151 ?_
          refine lv_iload_n hx hb dX6_worthOf_154 rfl (lv_at hl 3 rfl) ?_
          refine lv_iload hx hb dX6_worthOf_155 (lv_at hl 0 rfl) ?_
          refine lv_iconst (v := nI 1) hx hb dX6_worthOf_157 zki_1 ?_
          refine z_add hx hb dX6_worthOf_158 ?_
          refine z_iast hx hb hK hP hD hS 1 0 rfl rfl (by omega) (by decide) dX6_worthOf_159 (fun H locs hP hD hS => ?_)
          have hP : va_P D vwCl [(mo, .inr (8, [.int (nI th), .ref ra, .ref ca, .ref ha, .int (nI kp), .ref ba, .int (nI hd), .ref wa])), (wa, .inl (kw, 512, .inl (aN (va_up wg1 (plc b) ((gw b) + 1))))), (q49, .inl (cA49, 40, .inl (aB mf1)))] H := hP
          have hD : va_D A [(mo, .inr (8, [.int (nI th), .ref ra, .ref ca, .ref ha, .int (nI kp), .ref ba, .int (nI hd), .ref wa])), (wa, .inl (kw, 512, .inl (aN (va_up wg1 (plc b) ((gw b) + 1))))), (q49, .inl (cA49, 40, .inl (aB mf1)))] := hD
          refine lv_iload hx hb dX6_worthOf_160 (lv_at hl 0 rfl) ?_
          have hP9 := hP.sub (ws' := [(mo, .inr (8, [.int (nI th), .ref ra, .ref ca, .ref ha, .int (nI kp), .ref ba, .int (nI hd), .ref wa])), (wa, .inl (kw, 512, .inl (aN (va_up wg1 (plc b) ((gw b) + 1)))))]) [0, 1] rfl
          have hD9 := hD.sub (ws' := [(mo, .inr (8, [.int (nI th), .ref ra, .ref ca, .ref ha, .int (nI kp), .ref ba, .int (nI hd), .ref wa])), (wa, .inl (kw, 512, .inl (aN (va_up wg1 (plc b) ((gw b) + 1)))))]) [0, 1] (by decide) rfl
          have e9 : va_up wg1 (plc b) (gw b + 1) = wmo dd b wf := by rw [hdd, wmo, if_neg (by omega), hI1e.2.1]
          rw [e9] at hP9 hD9
          have hc9 := hI1e.1
          have hK9 := hK.sub (tys' := [(kw, .int)]) [0] rfl
          subst hAe
          refine W.widen (k := (wco dd b wf)) (n := (40 * wco dd b wf)) (by omega) (by omega) ?_
          exact W.iret hx hb hr (fun t ht hW => ⟨⟨_, (), rfl, (rfl), by rw [ht]; exact hP9, va_K.moved hW.alike hK9, hD9⟩, hS.F ht⟩) hS.2.2 dX6_worthOf_162
        · refine lv_iconst (v := nI 1) hx hb dX6_worthOf_61 zki_1 ?_
          refine lv_istore (lv' := [(5, .int (nI 1)), (0, .ref mo), (1, .int (nI b)), (2, .int (nI (plc b))), (3, .ref q49), (4, .int (nI x))]) hx hb dX6_worthOf_62 hl (by decide) rfl (fun ls hl => ?_)
          have cut_64 : ∀ (nn9 : Nat) (y : Nat) (wg2 : Nat → Nat) (sp2 : Nat) (mf2 : Nat → Bool) (hy1 : 1 ≤ y) (hy9 : y ≤ 4) (hI2 : WIV d b wf wg2 sp2 mf2 (py b x y (4 - y) ++ (px b (x + 1) (4 - (x + 1))))) (hn9 : 4 - y < nn9) (H : Heap) (locs : List Loc) (hP : va_P D vwCl [(mo, .inr (8, [.int (nI th), .ref ra, .ref ca, .ref ha, .int (nI kp), .ref ba, .int (nI hd), .ref wa])), (wa, .inl (kw, 512, .inl (aN wg2))), (q49, .inl (cA49, 40, .inl (aB mf2)))] H) (hD : va_D A [(mo, .inr (8, [.int (nI th), .ref ra, .ref ca, .ref ha, .int (nI kp), .ref ba, .int (nI hd), .ref wa])), (wa, .inl (kw, 512, .inl (aN wg2))), (q49, .inl (cA49, 40, .inl (aB mf2)))]) (hS : va_S A s.heap H locs) (ls : Array Slot) (hl : lv_has ls 8 [(0, .ref mo), (1, .int (nI b)), (2, .int (nI (plc b))), (3, .ref q49), (4, .int (nI x)), (5, .int (nI y))]), W p l e (headSpec wsX6_worthOf (rm_c_X6_worthOf dd b wf)).room s m args below meth c H locs (1 + sp2) (40 * (1 + sp2)) (MQ below (q_c_X6_worthOf D s.heap.size mo ra ca ha ba wa kp hd th kw wf d dd b) args s (wco dd b wf) (40 * wco dd b wf) A) (F0 m 64 ls []) := by
            intro nn9
            induction nn9 with
            | zero => intro y wg2 sp2 mf2 hy1 hy9 hI2 hn9; exact absurd hn9 (Nat.not_lt_zero _)
            | succ nn9 ih_64 =>
              intro y wg2 sp2 mf2 hy1 hy9 hI2 hn9 H locs hP hD hS ls hl
              refine lv_iload hx hb dX6_worthOf_64 (lv_at hl 5 rfl) ?_
              refine lv_iconst (v := nI 4) hx hb dX6_worthOf_66 zki_4 ?_
              refine z_cge (tgt := 138) hx hb (by omega) (by omega) dX6_worthOf_67 (by decide) (fun c_67 => ?_) (fun c_67 => ?_)
              · refine lv_iinc (v := (nI (x + 1))) (lv' := [(4, .int (nI (x + 1))), (0, .ref mo), (1, .int (nI b)), (2, .int (nI (plc b))), (3, .ref q49), (5, .int (nI y))]) hx hb dX6_worthOf_138 hl (k := 4) rfl (z_inc x 1) (by decide) rfl (fun ls hl => ?_)
                refine lv_goto (tgt := 55) hx hb dX6_worthOf_141 (by decide) ?_
                exact ih_55 (x + 1) wg2 sp2 mf2 (by omega) (by omega) (hI2.of (py_e c_67 _)) (by omega) H locs hP hD hS ls (lv_sub hl [1, 2, 3, 4, 0] rfl)
              · refine lv_iconst (v := nI 0) hx hb dX6_worthOf_70 zki_0 ?_
                refine lv_istore (lv' := [(6, .int (nI 0)), (0, .ref mo), (1, .int (nI b)), (2, .int (nI (plc b))), (3, .ref q49), (4, .int (nI x)), (5, .int (nI y))]) hx hb dX6_worthOf_71 hl (by decide) rfl (fun ls hl => ?_)
                have cut_73 : ∀ (nn9 : Nat) (u : Nat) (wg3 : Nat → Nat) (sp3 : Nat) (mf3 : Nat → Bool) (hu9 : u ≤ x) (hI3 : WIV d b wf wg3 sp3 mf3 (puu b x y u (x - u) ++ (py b x (y + 1) (4 - (y + 1)) ++ (px b (x + 1) (4 - (x + 1)))))) (hn9 : x - u < nn9) (H : Heap) (locs : List Loc) (hP : va_P D vwCl [(mo, .inr (8, [.int (nI th), .ref ra, .ref ca, .ref ha, .int (nI kp), .ref ba, .int (nI hd), .ref wa])), (wa, .inl (kw, 512, .inl (aN wg3))), (q49, .inl (cA49, 40, .inl (aB mf3)))] H) (hD : va_D A [(mo, .inr (8, [.int (nI th), .ref ra, .ref ca, .ref ha, .int (nI kp), .ref ba, .int (nI hd), .ref wa])), (wa, .inl (kw, 512, .inl (aN wg3))), (q49, .inl (cA49, 40, .inl (aB mf3)))]) (hS : va_S A s.heap H locs) (ls : Array Slot) (hl : lv_has ls 8 [(0, .ref mo), (1, .int (nI b)), (2, .int (nI (plc b))), (3, .ref q49), (4, .int (nI x)), (5, .int (nI y)), (6, .int (nI u))]), W p l e (headSpec wsX6_worthOf (rm_c_X6_worthOf dd b wf)).room s m args below meth c H locs (1 + sp3) (40 * (1 + sp3)) (MQ below (q_c_X6_worthOf D s.heap.size mo ra ca ha ba wa kp hd th kw wf d dd b) args s (wco dd b wf) (40 * wco dd b wf) A) (F0 m 73 ls []) := by
                  intro nn9
                  induction nn9 with
                  | zero => intro u wg3 sp3 mf3 hu9 hI3 hn9; exact absurd hn9 (Nat.not_lt_zero _)
                  | succ nn9 ih_73 =>
                    intro u wg3 sp3 mf3 hu9 hI3 hn9 H locs hP hD hS ls hl
                    refine lv_iload hx hb dX6_worthOf_73 (lv_at hl 6 rfl) ?_
                    refine lv_iload hx hb dX6_worthOf_75 (lv_at hl 4 rfl) ?_
                    refine z_cge (tgt := 132) hx hb (by omega) (by omega) dX6_worthOf_77 (by decide) (fun c_77 => ?_) (fun c_77 => ?_)
                    · have hI9 := hI3.of (puu_e c_77 _)
                      refine lv_iinc (v := (nI (y + 1))) (lv' := [(5, .int (nI (y + 1))), (0, .ref mo), (1, .int (nI b)), (2, .int (nI (plc b))), (3, .ref q49), (4, .int (nI x)), (6, .int (nI u))]) hx hb dX6_worthOf_132 hl (k := 5) rfl (z_inc y 1) (by decide) rfl (fun ls hl => ?_)
                      refine lv_goto (tgt := 64) hx hb dX6_worthOf_135 (by decide) ?_
                      exact ih_64 (y + 1) wg3 sp3 mf3 (by omega) (by omega) (hI9) (by omega) H locs hP hD hS ls (lv_sub hl [1, 2, 3, 4, 5, 0] rfl)
                    · have hsp7 := hI3.le
                      refine lv_iload_n hx hb dX6_worthOf_80 rfl (lv_at hl 1 rfl) ?_
                      refine lv_iload hx hb dX6_worthOf_81 (lv_at hl 4 rfl) ?_
                      refine lv_iload hx hb dX6_worthOf_83 (lv_at hl 5 rfl) ?_
                      refine z_ci (va_runS (As := [.int (nI b), .int (nI x), .int (nI y)]) (rest := []) ⟨hx, hb, hml, hown, hts⟩ (c_X6_isUp l D b x y (by omega) (by omega) (by omega)) (va_cwS 3 hts gX6_worthOf_X6_isUp rfl rfl rfl (by decide +kernel) ⟨(by omega : 1 + 1 ≤ 6 + dd), (by omega : 8 + (3 + 11) + 21 ≤ 160 + 27 * dd)⟩) ⟨z_fb0, fun U hU hW => ⟨rfl, trivial⟩⟩ rfl rfl hl.1 rfl (lv_room (Nat.le_of_ble_eq_true rfl)) dX6_worthOf_85 ⟨z_room (c := (wco dd b wf)) rfl (by omega), z_room (c := (40 * wco dd b wf)) rfl (by omega)⟩) (fun r85 e85 => ?_)
                      subst e85
                      refine z_beq (tgt := 132) hx hb dX6_worthOf_88 (by decide) (fun c_88 => ?_) (fun c_88 => ?_)
                      · have hI9 := hI3.of (puu_f c_88 _)
                        refine lv_iinc (v := (nI (y + 1))) (lv' := [(5, .int (nI (y + 1))), (0, .ref mo), (1, .int (nI b)), (2, .int (nI (plc b))), (3, .ref q49), (4, .int (nI x)), (6, .int (nI u))]) hx hb dX6_worthOf_132 hl (k := 5) rfl (z_inc y 1) (by decide) rfl (fun ls hl => ?_)
                        refine lv_goto (tgt := 64) hx hb dX6_worthOf_135 (by decide) ?_
                        exact ih_64 (y + 1) wg3 sp3 mf3 (by omega) (by omega) (hI9) (by omega) H locs hP hD hS ls (lv_sub hl [1, 2, 3, 4, 5, 0] rfl)
                      · refine lv_iconst (v := nI 0) hx hb dX6_worthOf_91 zki_0 ?_
                        refine lv_istore (lv' := [(7, .int (nI 0)), (0, .ref mo), (1, .int (nI b)), (2, .int (nI (plc b))), (3, .ref q49), (4, .int (nI x)), (5, .int (nI y)), (6, .int (nI u))]) hx hb dX6_worthOf_92 hl (by decide) rfl (fun ls hl => ?_)
                        have cut_94 : ∀ (nn9 : Nat) (v : Nat) (wg4 : Nat → Nat) (sp4 : Nat) (mf4 : Nat → Bool) (hv9 : v ≤ y) (hI4 : WIV d b wf wg4 sp4 mf4 (pv b x y u v (y - v) ++ (puu b x y (u + 1) (x - (u + 1)) ++ (py b x (y + 1) (4 - (y + 1)) ++ (px b (x + 1) (4 - (x + 1))))))) (hn9 : y - v < nn9) (H : Heap) (locs : List Loc) (hP : va_P D vwCl [(mo, .inr (8, [.int (nI th), .ref ra, .ref ca, .ref ha, .int (nI kp), .ref ba, .int (nI hd), .ref wa])), (wa, .inl (kw, 512, .inl (aN wg4))), (q49, .inl (cA49, 40, .inl (aB mf4)))] H) (hD : va_D A [(mo, .inr (8, [.int (nI th), .ref ra, .ref ca, .ref ha, .int (nI kp), .ref ba, .int (nI hd), .ref wa])), (wa, .inl (kw, 512, .inl (aN wg4))), (q49, .inl (cA49, 40, .inl (aB mf4)))]) (hS : va_S A s.heap H locs) (ls : Array Slot) (hl : lv_has ls 8 [(0, .ref mo), (1, .int (nI b)), (2, .int (nI (plc b))), (3, .ref q49), (4, .int (nI x)), (5, .int (nI y)), (6, .int (nI u)), (7, .int (nI v))]), W p l e (headSpec wsX6_worthOf (rm_c_X6_worthOf dd b wf)).room s m args below meth c H locs (1 + sp4) (40 * (1 + sp4)) (MQ below (q_c_X6_worthOf D s.heap.size mo ra ca ha ba wa kp hd th kw wf d dd b) args s (wco dd b wf) (40 * wco dd b wf) A) (F0 m 94 ls []) := by
                          intro nn9
                          induction nn9 with
                          | zero => intro v wg4 sp4 mf4 hv9 hI4 hn9; exact absurd hn9 (Nat.not_lt_zero _)
                          | succ nn9 ih_94 =>
                            intro v wg4 sp4 mf4 hv9 hI4 hn9 H locs hP hD hS ls hl
                            refine lv_iload hx hb dX6_worthOf_94 (lv_at hl 7 rfl) ?_
                            refine lv_iload hx hb dX6_worthOf_96 (lv_at hl 5 rfl) ?_
                            refine z_cge (tgt := 126) hx hb (by omega) (by omega) dX6_worthOf_98 (by decide) (fun c_98 => ?_) (fun c_98 => ?_)
                            · refine lv_iinc (v := (nI (u + 1))) (lv' := [(6, .int (nI (u + 1))), (0, .ref mo), (1, .int (nI b)), (2, .int (nI (plc b))), (3, .ref q49), (4, .int (nI x)), (5, .int (nI y)), (7, .int (nI v))]) hx hb dX6_worthOf_126 hl (k := 6) rfl (z_inc u 1) (by decide) rfl (fun ls hl => ?_)
                              refine lv_goto (tgt := 73) hx hb dX6_worthOf_129 (by decide) ?_
                              exact ih_73 (u + 1) wg4 sp4 mf4 (by omega) (hI4.of (pv_e c_98 _)) (by omega) H locs hP hD hS ls (lv_sub hl [1, 2, 3, 4, 5, 6, 0] rfl)
                            · have hI4s := hI4.of (pv_s c_98 _)
                              have hsp9 := hI4s.at
                              refine lv_aload_n hx hb dX6_worthOf_101 rfl (lv_at hl 3 rfl) ?_
                              refine lv_aload_n hx hb dX6_worthOf_102 rfl (lv_at hl 0 rfl) ?_
                              refine lv_iload_n hx hb dX6_worthOf_103 rfl (lv_at hl 1 rfl) ?_
                              refine lv_iload hx hb dX6_worthOf_104 (lv_at hl 4 rfl) ?_
                              refine lv_iload hx hb dX6_worthOf_106 (lv_at hl 5 rfl) ?_
                              refine lv_iload hx hb dX6_worthOf_108 (lv_at hl 6 rfl) ?_
                              refine lv_iload hx hb dX6_worthOf_110 (lv_at hl 7 rfl) ?_
                              refine z_ci (va_runS (As := [.int (nI b), .int (nI x), .int (nI y), .int (nI u), .int (nI v)]) (rest := [.ref mo, .ref q49]) ⟨hx, hb, hml, hown, hts⟩ (c_X6_turned l D b x y u v (by omega) (by omega) (by omega) (by omega) (hbb)) (va_cwS 5 hts gX6_worthOf_X6_turned rfl rfl rfl (by decide +kernel) ⟨(by omega : 1 + 1 ≤ 6 + dd), (by omega : 8 + (5 + 11) + 21 ≤ 160 + 27 * dd)⟩) ⟨z_fb0, fun U hU hW => ⟨rfl, trivial⟩⟩ rfl rfl hl.1 rfl (lv_room (Nat.le_of_ble_eq_true rfl)) dX6_worthOf_112 ⟨z_room (c := (wco dd b wf)) rfl (by omega), z_room (c := (40 * wco dd b wf)) rfl (by omega)⟩) (fun r112 e112 => ?_)
                              subst e112
                              have htn112 : trn b x y u v < 65536 := trn_lt (by omega) (by omega) (by omega) (by omega) (by omega)
                              have hPc := hP.sub (ws' := [(mo, .inr (8, [.int (nI th), .ref ra, .ref ca, .ref ha, .int (nI kp), .ref ba, .int (nI hd), .ref wa])), (wa, .inl (kw, 512, .inl (aN wg4)))]) [0, 1] rfl
                              have hDc := hD.sub (ws' := [(mo, .inr (8, [.int (nI th), .ref ra, .ref ca, .ref ha, .int (nI kp), .ref ba, .int (nI hd), .ref wa])), (wa, .inl (kw, 512, .inl (aN wg4)))]) [0, 1] (by decide) rfl
                              have hKc := hK.sub (tys' := [(kw, .int)]) [0] rfl
                              have hFc := va_free (wc := [(mo, .inr (8, [.int (nI th), .ref ra, .ref ca, .ref ha, .int (nI kp), .ref ba, .int (nI hd), .ref wa])), (wa, .inl (kw, 512, .inl (aN wg4)))]) hD hS hA [0, 1] rfl
                              refine va_calli (va_runV (As := [.int (nI (trn b x y u v))]) (rest := [.ref q49]) ⟨hx, hb, hml, hown, hts⟩ ((fun (_ : Launch) (_ : va_G) => ih) l D H.size mo ra ca ha ba wa kp hd th kw wg4 (trn b x y u v) (htn112) (Nat.lt_of_lt_of_le (trn_dn hbb (by omega) (by omega) c_77 c_98 c_88) (by omega)) (hI4s.2.2.1)) (cwV 1 hts gX6_worthOf_X6_worthOf rfl rfl rfl (by decide +kernel) ⟨by first | exact (by omega : (6 + d) + 1 ≤ 6 + dd) | exact (by omega : 8 + (8 + 11) + (160 + 27 * d) ≤ 160 + 27 * dd), by first | exact (by omega : (6 + d) + 1 ≤ 6 + dd) | exact (by omega : 8 + (8 + 11) + (160 + 27 * d) ≤ 160 + 27 * dd)⟩) ⟨(z_fb2), va_recv hK hP (ci := 8) (q0 := 0) rfl rfl, fun U hU hW => ⟨rfl, by rw [hU], by rw [hU]; exact hPc, va_K.moved hW.alike hKc, hDc.weaken (fun _ _ _ _ => trivial)⟩⟩ rfl rfl hl.1 rfl (lv_room (Nat.le_of_ble_eq_true rfl)) dX6_worthOf_115 ⟨z_room (c := (wco dd b wf)) rfl (by omega), z_room (c := (40 * wco dd b wf)) rfl (by omega)⟩) hS (fun q _ h => hFc q h) hFc (fun r115 u115 t H locs ht hvm e115 hB hz1 hk1 hS => ?_)
                              obtain ⟨hP1, hK1, hD1⟩ := hB
                              rw [ht] at hP1
                              obtain ⟨hP, hD⟩ := va_join (wr := [(q49, .inl (cA49, 40, .inl (aB mf4)))]) (w1 := [(mo, .inr (8, [.int (nI th), .ref ra, .ref ca, .ref ha, .int (nI kp), .ref ba, .int (nI hd), .ref wa])), (wa, .inl (kw, 512, .inl (aN (wmo d (trn b x y u v) wg4))))]) hP hD [0, 1] [2] rfl rfl (by decide) (by decide) hk1 hFc hP1 hD1
                              have hP : va_P D vwCl [(q49, .inl (cA49, 40, .inl (aB mf4))), (mo, .inr (8, [.int (nI th), .ref ra, .ref ca, .ref ha, .int (nI kp), .ref ba, .int (nI hd), .ref wa])), (wa, .inl (kw, 512, .inl (aN (wmo d (trn b x y u v) wg4))))] H := hP
                              have hD : va_D A [(q49, .inl (cA49, 40, .inl (aB mf4))), (mo, .inr (8, [.int (nI th), .ref ra, .ref ca, .ref ha, .int (nI kp), .ref ba, .int (nI hd), .ref wa])), (wa, .inl (kw, 512, .inl (aN (wmo d (trn b x y u v) wg4))))] := hD
                              refine W.widen (k := (1 + sp4) + (wco d (trn b x y u v) wg4)) (n := (40 * (1 + sp4)) + (40 * wco d (trn b x y u v) wg4)) (by omega) (by omega) ?_
                              subst e115
                              have hg115 : gw ((trn b x y u v)) < 4 := gw_lt _
                              refine lv_iconst (v := nI 1) hx hb dX6_worthOf_118 zki_1 ?_
                              refine zt (show nI 1 = bI true from rfl) ?_
                              refine z_zast hx hb hK hP hD hS 0 1 rfl rfl (by omega) (by decide) dX6_worthOf_119 (fun H locs hP hD hS => ?_)
                              have hP : va_P D vwCl [(q49, .inl (cA49, 40, .inl (aB (va_up mf4 (gw (trn b x y u v)) true)))), (mo, .inr (8, [.int (nI th), .ref ra, .ref ca, .ref ha, .int (nI kp), .ref ba, .int (nI hd), .ref wa])), (wa, .inl (kw, 512, .inl (aN (wmo d (trn b x y u v) wg4))))] H := hP
                              have hD : va_D A [(q49, .inl (cA49, 40, .inl (aB (va_up mf4 (gw (trn b x y u v)) true)))), (mo, .inr (8, [.int (nI th), .ref ra, .ref ca, .ref ha, .int (nI kp), .ref ba, .int (nI hd), .ref wa])), (wa, .inl (kw, 512, .inl (aN (wmo d (trn b x y u v) wg4))))] := hD
                              refine lv_iinc (v := (nI (v + 1))) (lv' := [(7, .int (nI (v + 1))), (0, .ref mo), (1, .int (nI b)), (2, .int (nI (plc b))), (3, .ref q49), (4, .int (nI x)), (5, .int (nI y)), (6, .int (nI u))]) hx hb dX6_worthOf_120 hl (k := 7) rfl (z_inc v 1) (by decide) rfl (fun ls hl => ?_)
                              refine lv_goto (tgt := 94) hx hb dX6_worthOf_123 (by decide) ?_
                              refine W.widen (k := (1 + (sp4 + wco d (trn b x y u v) wg4))) (n := (40 * (1 + (sp4 + wco d (trn b x y u v) wg4)))) (by omega) (by omega) ?_
                              exact ih_94 (v + 1) (wmo d (trn b x y u v) wg4) (sp4 + wco d (trn b x y u v) wg4) (va_up mf4 (gw (trn b x y u v)) true) (by omega) (hI4s.step hbb) (by omega) H locs (hP.sub [1, 2, 0] rfl) (hD.sub [1, 2, 0] (by decide) rfl) hS ls (lv_sub hl [1, 2, 3, 4, 5, 6, 7, 0] rfl)
                        exact cut_94 ((y - 0) + 1) 0 wg3 sp3 mf3 (by omega) (hI3.of (puu_s c_77 c_88 _)) (Nat.lt_succ_self _) H locs hP hD hS ls (lv_sub hl [1, 2, 3, 4, 5, 6, 7, 0] rfl)
                exact cut_73 ((x - 0) + 1) 0 wg2 sp2 mf2 (by omega) (hI2.of (py_s c_67 _)) (Nat.lt_succ_self _) H locs hP hD hS ls (lv_sub hl [1, 2, 3, 4, 5, 6, 0] rfl)
          exact cut_64 ((4 - 1) + 1) 1 wg1 sp1 mf1 (by omega) (by omega) (hI1.of (px_s c_58)) (Nat.lt_succ_self _) H locs hP hD hS ls (lv_sub hl [1, 2, 3, 4, 5, 0] rfl)
    refine W.widen (k := (1 + 0)) (n := (40 * (1 + 0))) (by omega) (by omega) ?_
    exact cut_55 ((4 - 1) + 1) 1 wf 0 (fun _ => false) (by omega) (by omega) (WIV.rf hwi) (Nat.lt_succ_self _) H _ hP hD hS ls (lv_sub hl [3, 4, 2, 1, 0] rfl)
  · have e9 : wf = wmo dd b wf := by rw [hdd, wmo, if_pos (by omega)]
    refine lv_aload_n hx hb dX6_worthOf_38 rfl (lv_at hl 1 rfl) ?_
    refine va_get (D := D) (ci := 8) (v := .ref wa) (C := RX6) (T := TX6) (N := 8) hx hb hts nX6_worthOf_inX6 hown hK hP 0 rfl rfl 7 (by decide) (hts (.fieldLink RX6 23 "GamefieldModel" "worths" "[I") (by decide +kernel)) (fun _ h9 => h9) rfl dX6_worthOf_39 ?_
    refine lv_iload_n hx hb dX6_worthOf_42 rfl (lv_at hl 0 rfl) ?_
    refine z_iald hx hb hK hP 1 0 rfl rfl (by omega) (by decide) dX6_worthOf_43 ?_
    refine lv_iconst (v := nI 1) hx hb dX6_worthOf_44 zki_1 ?_
    refine z_sub hx hb (by omega) dX6_worthOf_45 ?_
    have hP9 := hP.sub (ws' := [(mo, .inr (8, [.int (nI th), .ref ra, .ref ca, .ref ha, .int (nI kp), .ref ba, .int (nI hd), .ref wa])), (wa, .inl (kw, 512, .inl (aN wf)))]) [0, 1] rfl
    have hD9 := hD.sub (ws' := [(mo, .inr (8, [.int (nI th), .ref ra, .ref ca, .ref ha, .int (nI kp), .ref ba, .int (nI hd), .ref wa])), (wa, .inl (kw, 512, .inl (aN wf)))]) [0, 1] (by decide) rfl
    rw [e9] at hP9 hD9
    have hK9 := hK.sub (tys' := [(kw, .int)]) [0] rfl
    subst hAe
    refine W.widen (k := (wco dd b wf)) (n := (40 * wco dd b wf)) (by omega) (by omega) ?_
    exact W.iret hx hb hr (fun t ht hW => ⟨⟨_, (), rfl, (congrArg nI (by omega)), by rw [ht]; exact hP9, va_K.moved hW.alike hK9, hD9⟩, hS.F ht⟩) hS.2.2 dX6_worthOf_46
theorem c_X6_worthOf_all (l : Launch) (D : va_G) : ∀ (dd sz : Nat) (mo : Nat) (ra : Nat) (ca : Nat) (ha : Nat) (ba : Nat) (wa : Nat) (kp : Nat) (hd : Nat) (th : Nat) (kw : ClassId) (wf : Nat → Nat) (b : Nat), b < 65536 → plc b < dd → winv wf → Met l yX6_worthOf wsX6_worthOf (rm_c_X6_worthOf dd b wf) (va_Pc [.ref mo, .int (nI b)] (fun U => U.heap.size = sz ∧ va_P D vwCl [(mo, .inr (8, [.int (nI th), .ref ra, .ref ca, .ref ha, .int (nI kp), .ref ba, .int (nI hd), .ref wa])), (wa, .inl (kw, 512, .inl (aN wf)))] U.heap ∧ va_K D vwCl [(kw, .int)] U ∧ va_D (fun _ => True) [(mo, .inr (8, [.int (nI th), .ref ra, .ref ca, .ref ha, .int (nI kp), .ref ba, .int (nI hd), .ref wa])), (wa, .inl (kw, 512, .inl (aN wf)))])) (q_c_X6_worthOf D sz mo ra ca ha ba wa kp hd th kw wf 0 dd b) (wco dd b wf) (40 * wco dd b wf) (va_A [(mo, .inr (8, [.int (nI th), .ref ra, .ref ca, .ref ha, .int (nI kp), .ref ba, .int (nI hd), .ref wa])), (wa, .inl (kw, 512, .inl (aN wf)))] sz)
  | 0, _, _, _, _, _, _, _, _, _, _, _, _, _, _, h, _ => absurd h (Nat.not_lt_zero _)
  | d + 1, sz, mo, ra, ca, ha, ba, wa, kp, hd, th, kw, wf, b, h1, h2, h3 => c_X6_worthOf l D sz mo ra ca ha ba wa kp hd th kw wf d (d + 1) b h1 h2 h3 rfl (fun sz mo ra ca ha ba wa kp hd th kw wf b g1 g2 g3 => c_X6_worthOf_all l D d sz mo ra ca ha ba wa kp hd th kw wf b g1 g2 g3)
abbrev rm_c_X6_worthOf_ok (b : Nat) (wf : Nat → Nat) : Room := rm_c_X6_worthOf 512 b wf
abbrev q_c_X6_worthOf_ok (D : va_G) (sz : Nat) (mo : Nat) (ra : Nat) (ca : Nat) (ha : Nat) (ba : Nat) (wa : Nat) (kp : Nat) (hd : Nat) (th : Nat) (kw : ClassId) (wf : Nat → Nat) (b : Nat) : Array Value → State → Outcome → State → Prop := q_c_X6_worthOf D sz mo ra ca ha ba wa kp hd th kw wf 0 512 b
theorem c_X6_worthOf_ok (l : Launch) (D : va_G) (sz : Nat) (mo : Nat) (ra : Nat) (ca : Nat) (ha : Nat) (ba : Nat) (wa : Nat) (kp : Nat) (hd : Nat) (th : Nat) (kw : ClassId) (wf : Nat → Nat) (b : Nat) (h1 : b < 65536) (h3 : winv wf) : Met l yX6_worthOf wsX6_worthOf (rm_c_X6_worthOf 512 b wf) (va_Pc [.ref mo, .int (nI b)] (fun U => U.heap.size = sz ∧ va_P D vwCl [(mo, .inr (8, [.int (nI th), .ref ra, .ref ca, .ref ha, .int (nI kp), .ref ba, .int (nI hd), .ref wa])), (wa, .inl (kw, 512, .inl (aN wf)))] U.heap ∧ va_K D vwCl [(kw, .int)] U ∧ va_D (fun _ => True) [(mo, .inr (8, [.int (nI th), .ref ra, .ref ca, .ref ha, .int (nI kp), .ref ba, .int (nI hd), .ref wa])), (wa, .inl (kw, 512, .inl (aN wf)))])) (q_c_X6_worthOf D sz mo ra ca ha ba wa kp hd th kw wf 0 512 b) (wco 512 b wf) (40 * wco 512 b wf) (va_A [(mo, .inr (8, [.int (nI th), .ref ra, .ref ca, .ref ha, .int (nI kp), .ref ba, .int (nI hd), .ref wa])), (wa, .inl (kw, 512, .inl (aN wf)))] sz) := c_X6_worthOf_all l D 512 sz mo ra ca ha ba wa kp hd th kw wf b h1 (plc_lt h1) h3

