/-- words that no good list has: they go along by themselves -/
def wBad : List Cond := [.declares (Bundle.initS "java/lang/RuntimeException"), .declares (Bundle.initS "java/lang/Exception"), .declares (Bundle.initS Bundle.tN), .castable "java/lang/IndexOutOfBoundsException" "java/lang/IndexOutOfBoundsException", .castable "java/lang/IllegalArgumentException" "java/lang/IllegalArgumentException", .castable "java/lang/IllegalStateException" "java/lang/IllegalStateException", .castable "java/lang/ArithmeticException" "java/lang/ArithmeticException", .castable "java/util/NoSuchElementException" "java/util/NoSuchElementException"]
def zW (U : State) : Prop := ∀ w ∈ wBad, va_Nw w U
theorem wBad_tab : ∀ w ∈ wBad, w.onTables = true := by decide +kernel
theorem zW.same {u U : State} (h : u.vm = U.vm) (hZ : zW u) : zW U := fun w hw => va_Nw.same (wBad_tab w hw) h (hZ w hw)
theorem zW.warm {s U : State} (hW : s.WarmedH U.vm) (hZ : zW s) : zW U := by
  intro w hw
  have h1 := hZ w hw
  simp only [wBad, List.mem_cons, List.not_mem_nil, or_false] at hw
  rcases hw with rfl | rfl | rfl | rfl | rfl | rfl | rfl | rfl
  · exact va_Nw.warmD hW h1
  · exact va_Nw.warmD hW h1
  · exact va_Nw.warmD hW h1
  · exact va_Nw.warmC hW h1
  · exact va_Nw.warmC hW h1
  · exact va_Nw.warmC hW h1
  · exact va_Nw.warmC hW h1
  · exact va_Nw.warmC hW h1
/-- what a throw asks of the world: two statics of Throwable, the class's texts -/
def zTh (A : Nat → Prop) (U : State) (H : Heap) : Prop := vx_Zq Bundle.tN "UNASSIGNED_STACK" Bundle.steD A U H ∧ vx_Zq Bundle.tN "SUPPRESSED_SENTINEL" Bundle.listD A U H ∧
  (∃ a, vk_R RX4 30 "no such register" a U) ∧ (∃ a, vk_R RX5 60 "0 divides nothing" a U) ∧ (∃ a, vk_R RX5 83 "no x, the sum of whose square and itself is this number" a U) ∧ (∃ a, vk_R RX5 93 "0 has no order" a U) ∧ (∃ a, vk_R RX5 140 "no such place of the basket" a U) ∧ (∃ a, vk_R RX5 191 "no such play" a U) ∧ (∃ a, vk_R RX5 245 "a number is out of its range" a U) ∧ (∃ a, vk_R RX5 251 "no such place of the board" a U) ∧ zW U
theorem zTh.next {A B : Nat → Prop} {s U : State} {H : Heap} {locs : List Loc} (h : zTh A s s.heap) (hS : va_S A s.heap H locs) (hB : ∀ q, B q → A q) (hW : s.WarmedH U.vm) (hU : U.heap = H) : zTh B U U.heap := by
  obtain ⟨h1, h2, ⟨a1, r1⟩, ⟨a2, r2⟩, ⟨a3, r3⟩, ⟨a4, r4⟩, ⟨a5, r5⟩, ⟨a6, r6⟩, ⟨a7, r7⟩, ⟨a8, r8⟩, h9⟩ := h
  rw [hU]
  exact ⟨((h1.kept (fun a p q => hS.2.1 a p q)).narrow hB).moved hW.alike, ((h2.kept (fun a p q => hS.2.1 a p q)).narrow hB).moved hW.alike, ⟨a1, r1.warm hW⟩, ⟨a2, r2.warm hW⟩, ⟨a3, r3.warm hW⟩, ⟨a4, r4.warm hW⟩, ⟨a5, r5.warm hW⟩, ⟨a6, r6.warm hW⟩, ⟨a7, r7.warm hW⟩, ⟨a8, r8.warm hW⟩, h9.warm hW⟩
theorem zTh.blind {A : Nat → Prop} {U : State} {g : JFrame} {mk : MethodId} {a : Array Value} (h : zTh A U U.heap) : zTh A (U.calling g mk a) (U.calling g mk a).heap := by
  obtain ⟨h1, h2, ⟨a1, r1⟩, ⟨a2, r2⟩, ⟨a3, r3⟩, ⟨a4, r4⟩, ⟨a5, r5⟩, ⟨a6, r6⟩, ⟨a7, r7⟩, ⟨a8, r8⟩, h9⟩ := h
  exact ⟨h1.moved (U := U.calling g mk a) (Vm.Alike.refl U.vm), h2.moved (U := U.calling g mk a) (Vm.Alike.refl U.vm), ⟨a1, vk_R.same (u := U) rfl r1⟩, ⟨a2, vk_R.same (u := U) rfl r2⟩, ⟨a3, vk_R.same (u := U) rfl r3⟩, ⟨a4, vk_R.same (u := U) rfl r4⟩, ⟨a5, vk_R.same (u := U) rfl r5⟩, ⟨a6, vk_R.same (u := U) rfl r6⟩, ⟨a7, vk_R.same (u := U) rfl r7⟩, ⟨a8, vk_R.same (u := U) rfl r8⟩, zW.same (u := U) (U := U.calling g mk a) rfl h9⟩
theorem z_fbX {av : List Value} {sz : Nat} {B A : Nat → Prop} {D : va_G} {cl : List vw_C} {tys : List (ClassId × FieldType)} {ws : va_W} : FrameBlind (va_Pc av (fun U => U.heap.size = sz ∧ va_P D cl ws U.heap ∧ va_K D cl tys U ∧ va_D B ws ∧ zTh A U U.heap)) := fun a U g mk q => by
  obtain ⟨q0, q1, qP, qK, qD, qE⟩ := q
  exact ⟨q0, q1, qP, va_K.moved (u := U) (U := U.calling g mk a) (Vm.Alike.refl U.vm) qK, qD, qE.blind⟩
theorem wth_bad_RX4_32 : ∀ w ∈ (vx_atS RX4 32 "java/lang/IndexOutOfBoundsException" ["java/lang/RuntimeException", "java/lang/Exception"]).filter (fun w => !goodWord w), w ∈ wBad := by decide +kernel
theorem wth_good_RX4_32_28 : ∀ w ∈ Cond.classLink RX4 28 "java/lang/IndexOutOfBoundsException" :: Cond.initialized "java/lang/IndexOutOfBoundsException" :: (vx_atS RX4 32 "java/lang/IndexOutOfBoundsException" ["java/lang/RuntimeException", "java/lang/Exception"]), vx_ot w = true := by decide +kernel
theorem wth_hat_X4_requireRegister {args : Array Value} {s : State} (hts : ∀ w ∈ wsX4_requireRegister, w.before args s = true) (hW : zW s) : ∀ w ∈ (vx_atS RX4 32 "java/lang/IndexOutOfBoundsException" ["java/lang/RuntimeException", "java/lang/Exception"]), w.before args s = true := vx_hat (fun w h => hts w (List.mem_cons_of_mem _ (List.mem_append_right _ h))) wth_bad_RX4_32 (fun w h => va_Nw.use (wBad_tab w h) (hW w h))
theorem wth_bad_RX5_62 : ∀ w ∈ (vx_atS RX5 62 "java/lang/ArithmeticException" ["java/lang/RuntimeException", "java/lang/Exception"]).filter (fun w => !goodWord w), w ∈ wBad := by decide +kernel
theorem wth_good_RX5_62_58 : ∀ w ∈ Cond.classLink RX5 58 "java/lang/ArithmeticException" :: Cond.initialized "java/lang/ArithmeticException" :: (vx_atS RX5 62 "java/lang/ArithmeticException" ["java/lang/RuntimeException", "java/lang/Exception"]), vx_ot w = true := by decide +kernel
theorem wth_hat_X5_quotient {args : Array Value} {s : State} (hts : ∀ w ∈ wsX5_quotient, w.before args s = true) (hW : zW s) : ∀ w ∈ (vx_atS RX5 62 "java/lang/ArithmeticException" ["java/lang/RuntimeException", "java/lang/Exception"]), w.before args s = true := vx_hat (fun w h => hts w (List.mem_cons_of_mem _ (List.mem_append_left _ (List.mem_append_left _ (List.mem_append_left _ (List.mem_append_right _ h)))))) wth_bad_RX5_62 (fun w h => va_Nw.use (wBad_tab w h) (hW w h))
theorem wth_hat_X5_order {args : Array Value} {s : State} (hts : ∀ w ∈ wsX5_order, w.before args s = true) (hW : zW s) : ∀ w ∈ (vx_atS RX5 62 "java/lang/ArithmeticException" ["java/lang/RuntimeException", "java/lang/Exception"]), w.before args s = true := vx_hat (fun w h => hts w (List.mem_cons_of_mem _ (List.mem_append_left _ (List.mem_append_left _ (List.mem_append_left _ (List.mem_append_right _ h)))))) wth_bad_RX5_62 (fun w h => va_Nw.use (wBad_tab w h) (hW w h))
theorem wth_bad_RX5_85 : ∀ w ∈ (wx_at13 RX5 85).filter (fun w => !goodWord w), w ∈ wBad := by decide +kernel
theorem wth_good_RX5_85_81 : ∀ w ∈ Cond.classLink RX5 81 "java/util/NoSuchElementException" :: Cond.initialized "java/util/NoSuchElementException" :: (wx_at13 RX5 85), vx_ot w = true := by decide +kernel
theorem wth_hat_X5_solve {args : Array Value} {s : State} (hts : ∀ w ∈ wsX5_solve, w.before args s = true) (hW : zW s) : ∀ w ∈ (wx_at13 RX5 85), w.before args s = true := vx_hat (fun w h => hts w (List.mem_cons_of_mem _ (List.mem_append_left _ (List.mem_append_left _ (List.mem_append_left _ (List.mem_append_right _ h)))))) wth_bad_RX5_85 (fun w h => va_Nw.use (wBad_tab w h) (hW w h))
theorem wth_bad_RX5_142 : ∀ w ∈ (vx_atS RX5 142 "java/lang/IndexOutOfBoundsException" ["java/lang/RuntimeException", "java/lang/Exception"]).filter (fun w => !goodWord w), w ∈ wBad := by decide +kernel
theorem wth_good_RX5_142_138 : ∀ w ∈ Cond.classLink RX5 138 "java/lang/IndexOutOfBoundsException" :: Cond.initialized "java/lang/IndexOutOfBoundsException" :: (vx_atS RX5 142 "java/lang/IndexOutOfBoundsException" ["java/lang/RuntimeException", "java/lang/Exception"]), vx_ot w = true := by decide +kernel
theorem wth_hat_X5_numberAt {args : Array Value} {s : State} (hts : ∀ w ∈ wsX5_numberAt, w.before args s = true) (hW : zW s) : ∀ w ∈ (vx_atS RX5 142 "java/lang/IndexOutOfBoundsException" ["java/lang/RuntimeException", "java/lang/Exception"]), w.before args s = true := vx_hat (fun w h => hts w (List.mem_cons_of_mem _ (List.mem_append_left _ (List.mem_append_right _ h)))) wth_bad_RX5_142 (fun w h => va_Nw.use (wBad_tab w h) (hW w h))
theorem wth_hat_X5_requireOnBoard {args : Array Value} {s : State} (hts : ∀ w ∈ wsX5_requireOnBoard, w.before args s = true) (hW : zW s) : ∀ w ∈ (vx_atS RX5 142 "java/lang/IndexOutOfBoundsException" ["java/lang/RuntimeException", "java/lang/Exception"]), w.before args s = true := vx_hat (fun w h => hts w (List.mem_cons_of_mem _ (List.mem_append_right _ h))) wth_bad_RX5_142 (fun w h => va_Nw.use (wBad_tab w h) (hW w h))
theorem wth_bad_RX5_193 : ∀ w ∈ (vx_atS RX5 193 "java/lang/IllegalStateException" ["java/lang/RuntimeException", "java/lang/Exception"]).filter (fun w => !goodWord w), w ∈ wBad := by decide +kernel
theorem wth_good_RX5_193_189 : ∀ w ∈ Cond.classLink RX5 189 "java/lang/IllegalStateException" :: Cond.initialized "java/lang/IllegalStateException" :: (vx_atS RX5 193 "java/lang/IllegalStateException" ["java/lang/RuntimeException", "java/lang/Exception"]), vx_ot w = true := by decide +kernel
theorem wth_hat_X5_play {args : Array Value} {s : State} (hts : ∀ w ∈ wsX5_play, w.before args s = true) (hW : zW s) : ∀ w ∈ (vx_atS RX5 193 "java/lang/IllegalStateException" ["java/lang/RuntimeException", "java/lang/Exception"]), w.before args s = true := vx_hat (fun w h => hts w (List.mem_cons_of_mem _ (List.mem_append_left _ (List.mem_append_left _ (List.mem_append_right _ h))))) wth_bad_RX5_193 (fun w h => va_Nw.use (wBad_tab w h) (hW w h))
theorem wth_bad_RX5_247 : ∀ w ∈ (vx_atS RX5 247 "java/lang/IllegalArgumentException" ["java/lang/RuntimeException", "java/lang/Exception"]).filter (fun w => !goodWord w), w ∈ wBad := by decide +kernel
theorem wth_good_RX5_247_243 : ∀ w ∈ Cond.classLink RX5 243 "java/lang/IllegalArgumentException" :: Cond.initialized "java/lang/IllegalArgumentException" :: (vx_atS RX5 247 "java/lang/IllegalArgumentException" ["java/lang/RuntimeException", "java/lang/Exception"]), vx_ot w = true := by decide +kernel
theorem wth_hat_X5_requireBetween {args : Array Value} {s : State} (hts : ∀ w ∈ wsX5_requireBetween, w.before args s = true) (hW : zW s) : ∀ w ∈ (vx_atS RX5 247 "java/lang/IllegalArgumentException" ["java/lang/RuntimeException", "java/lang/Exception"]), w.before args s = true := vx_hat (fun w h => hts w (List.mem_cons_of_mem _ (List.mem_append_right _ h))) wth_bad_RX5_247 (fun w h => va_Nw.use (wBad_tab w h) (hW w h))
