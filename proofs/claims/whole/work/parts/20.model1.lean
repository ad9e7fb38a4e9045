def s_X4_in (q : Int32) (lo : Int32) (hi : Int32) : Int32 := (if q < lo then 0 else (if hi < q then 0 else 1))
set_option maxHeartbeats 4000000 in
set_option maxRecDepth 100000 in
theorem c_X4_in (l : Launch) (D : va_G) (cI cS : ClassId) (q : Int32) (lo : Int32) (hi : Int32) : Ct l yX4_in wsX4_in ({ frames := 0, cells := 0, slots := 0, locals := 0 }) D (tyL cI cS) [.int q, .int lo, .int hi] [] (some (.int (s_X4_in q lo hi))) [] := by
  refine Ct.of (cc := cX4_in) (maxL := 3) (ret := (some .boolean)) (by decide) rfl (Nat.le_of_ble_eq_true rfl) ?_
  intro p ev s m args below meth c A ls S hr hlk G hl
  have hx := S.1
  have hb := S.2.1
  have hown : s.vm.findClass RX4 = some m.cls := S.2.2.2.1
  have hts := S.2.2.2.2
  have hl : lv_has ls 3 [(0, .int q), (1, .int lo), (2, .int hi)] := hl
  refine lv_iload_n hx hb dX4_in_0 rfl (lv_at hl 0 rfl) ?_
  refine lv_iload_n hx hb dX4_in_1 rfl (lv_at hl 1 rfl) ?_
  refine lv_icmp_lt (tgt := 14) hx hb dX4_in_2 (by decide) (fun c_1 => ?_) (fun c_1 => ?_)
  · skip
    refine lv_iconst (v := 0) hx hb dX4_in_14 (by decide) ?_
    have es : (s_X4_in q lo hi) = 0 := by rw [s_X4_in, if_pos c_1]
    exact k_zret S G hr hlk dX4_in_15 (by decide) (by first | (rw [es]; done) | (rw [es]; rfl) | (simp only [es]; done) | (simp only [es]; rfl)) rfl
  · skip
    refine lv_iload_n hx hb dX4_in_5 rfl (lv_at hl 0 rfl) ?_
    refine lv_iload_n hx hb dX4_in_6 rfl (lv_at hl 2 rfl) ?_
    refine lv_icmp_gt (tgt := 14) hx hb dX4_in_7 (by decide) (fun c_2 => ?_) (fun c_2 => ?_)
    · skip
      refine lv_iconst (v := 0) hx hb dX4_in_14 (by decide) ?_
      have es : (s_X4_in q lo hi) = 0 := by rw [s_X4_in, if_neg c_1, if_pos c_2]
      exact k_zret S G hr hlk dX4_in_15 (by decide) (by first | (rw [es]; done) | (rw [es]; rfl) | (simp only [es]; done) | (simp only [es]; rfl)) rfl
    · skip
      refine lv_iconst (v := 1) hx hb dX4_in_10 (by decide) ?_
      refine lv_goto (tgt := 15) hx hb dX4_in_11 (by decide) ?_
      have es : (s_X4_in q lo hi) = 1 := by rw [s_X4_in, if_neg c_1, if_neg c_2]
      exact k_zret S G hr hlk dX4_in_15 (by decide) (by first | (rw [es]; done) | (rw [es]; rfl) | (simp only [es]; done) | (simp only [es]; rfl)) rfl
def s_X4_at (q : Int32) (w : Int32) : Int32 := ((4 + (5 * q)) + w)
set_option maxHeartbeats 4000000 in
set_option maxRecDepth 100000 in
theorem c_X4_at (l : Launch) (D : va_G) (cI cS : ClassId) (q : Int32) (w : Int32) : Ct l yX4_at wsX4_at ({ frames := 0, cells := 0, slots := 0, locals := 0 }) D (tyL cI cS) [.int q, .int w] [] (some (.int (s_X4_at q w))) [] := by
  refine Ct.of (cc := cX4_at) (maxL := 2) (ret := (some .int)) (by decide) rfl (Nat.le_of_ble_eq_true rfl) ?_
  intro p ev s m args below meth c A ls S hr hlk G hl
  have hx := S.1
  have hb := S.2.1
  have hown : s.vm.findClass RX4 = some m.cls := S.2.2.2.1
  have hts := S.2.2.2.2
  have hl : lv_has ls 2 [(0, .int q), (1, .int w)] := hl
  refine lv_iconst (v := 4) hx hb dX4_at_0 (by decide) ?_
  refine lv_iconst (v := 5) hx hb dX4_at_1 (by decide) ?_
  refine lv_iload_n hx hb dX4_at_2 rfl (lv_at hl 0 rfl) ?_
  refine lv_imul hx hb dX4_at_3 ?_
  refine lv_iadd hx hb dX4_at_4 ?_
  refine lv_iload_n hx hb dX4_at_5 rfl (lv_at hl 1 rfl) ?_
  refine lv_iadd hx hb dX4_at_6 ?_
  have es : (s_X4_at q w) = ((4 + (5 * q)) + w) := rfl
  exact k_iret S G hr hlk dX4_at_7 (by first | (rw [es]; done) | (rw [es]; rfl) | (simp only [es]; done) | (simp only [es]; rfl)) rfl
theorem s_X4_in_01 (q lo hi : Int32) : s_X4_in q lo hi = 0 ∨ s_X4_in q lo hi = 1 := by
  unfold s_X4_in; split <;> (try split) <;> simp
def s_X4_isTrain (q : Int32) : Int32 := (s_X4_in q 0 1)
set_option maxHeartbeats 4000000 in
set_option maxRecDepth 100000 in
theorem c_X4_isTrain (l : Launch) (D : va_G) (cI cS : ClassId) (q : Int32) : Ct l yX4_isTrain wsX4_isTrain ({ frames := 1, cells := 0, slots := 0, locals := 22 }) D (tyL cI cS) [.int q] [] (some (.int (s_X4_isTrain q))) [] := by
  refine Ct.of (cc := cX4_isTrain) (maxL := 1) (ret := (some .boolean)) (by decide) rfl (Nat.le_of_ble_eq_true rfl) ?_
  intro p ev s m args below meth c A ls S hr hlk G hl
  have hx := S.1
  have hb := S.2.1
  have hown : s.vm.findClass RX4 = some m.cls := S.2.2.2.1
  have hts := S.2.2.2.2
  have hl : lv_has ls 1 [(0, .int q)] := hl
  refine lv_iload_n hx hb dX4_isTrain_0 rfl (lv_at hl 0 rfl) ?_
  refine lv_iconst (v := 0) hx hb dX4_isTrain_1 (by decide) ?_
  refine lv_iconst (v := 1) hx hb dX4_isTrain_2 (by decide) ?_
  refine k_callS (n := 3) (As := [.int q, .int 0, .int 1]) (rest := []) (st1 := [.int (s_X4_in q 0 1)]) (ws1 := []) S G (c_X4_in l D cI cS q 0 1) gX4_isTrain_X4_in rfl (by decide +kernel) ⟨⟨rfl, rfl⟩, Nat.le_of_ble_eq_true rfl, Nat.le_of_ble_eq_true rfl⟩ [] (by decide) rfl [] rfl rfl rfl hl.1 rfl (Nat.le_of_ble_eq_true rfl) ⟨Nat.zero_le _, Nat.zero_le _⟩ dX4_isTrain_3 rfl rfl (fun H locs G => ?_)
  have es : (s_X4_isTrain q) = (s_X4_in q 0 1) := rfl
  exact k_zret S G hr hlk dX4_isTrain_6 (s_X4_in_01 _ _ _ ) (by first | (rw [es]; done) | (rw [es]; rfl) | (simp only [es]; done) | (simp only [es]; rfl)) rfl
def s_X4_positions (q : Int32) : Int32 := (if q = 0 then 12 else 4)
set_option maxHeartbeats 4000000 in
set_option maxRecDepth 100000 in
theorem c_X4_positions (l : Launch) (D : va_G) (cI cS : ClassId) (q : Int32) : Ct l yX4_positions wsX4_positions ({ frames := 0, cells := 0, slots := 0, locals := 0 }) D (tyL cI cS) [.int q] [] (some (.int (s_X4_positions q))) [] := by
  refine Ct.of (cc := cX4_positions) (maxL := 1) (ret := (some .int)) (by decide) rfl (Nat.le_of_ble_eq_true rfl) ?_
  intro p ev s m args below meth c A ls S hr hlk G hl
  have hx := S.1
  have hb := S.2.1
  have hown : s.vm.findClass RX4 = some m.cls := S.2.2.2.1
  have hts := S.2.2.2.2
  have hl : lv_has ls 1 [(0, .int q)] := hl
  refine lv_iload_n hx hb dX4_positions_0 rfl (lv_at hl 0 rfl) ?_
  refine lv_if_ne (tgt := 9) hx hb dX4_positions_1 (by decide) (fun c_1 => ?_) (fun c_1 => ?_)
  · skip
    refine lv_iconst (v := 4) hx hb dX4_positions_9 (by decide) ?_
    have es : (s_X4_positions q) = 4 := by rw [s_X4_positions, if_neg c_1]
    exact k_iret S G hr hlk dX4_positions_10 (by first | (rw [es]; done) | (rw [es]; rfl) | (simp only [es]; done) | (simp only [es]; rfl)) rfl
  · skip
    refine lv_bipush (v := 12) hx hb dX4_positions_4 (by decide) ?_
    refine lv_goto (tgt := 10) hx hb dX4_positions_6 (by decide) ?_
    have es : (s_X4_positions q) = 12 := by rw [s_X4_positions, if_pos c_1]
    exact k_iret S G hr hlk dX4_positions_10 (by first | (rw [es]; done) | (rw [es]; rfl) | (simp only [es]; done) | (simp only [es]; rfl)) rfl
def s_X4_dueAfter_0 (q : Int32) : Int32 := (if (irem ((q / 60) + 1) 12) = 0 then 12 else (irem ((q / 60) + 1) 12))
set_option maxHeartbeats 4000000 in
set_option maxRecDepth 100000 in
theorem c_X4_dueAfter_0 (l : Launch) (D : va_G) (cI cS : ClassId) (q : Int32) : Ct l yX4_dueAfter wsX4_dueAfter ({ frames := 1, cells := 0, slots := 0, locals := 20 }) D (tyL cI cS) [.int 0, .int q] [] (some (.int (s_X4_dueAfter_0 q))) [] := by
  refine Ct.of (cc := cX4_dueAfter) (maxL := 4) (ret := (some .int)) (by decide) rfl (Nat.le_of_ble_eq_true rfl) ?_
  intro p ev s m args below meth c A ls S hr hlk G hl
  have hx := S.1
  have hb := S.2.1
  have hown : s.vm.findClass RX4 = some m.cls := S.2.2.2.1
  have hts := S.2.2.2.2
  have hl : lv_has ls 4 [(0, .int 0), (1, .int q)] := hl
  refine lv_iload_n hx hb dX4_dueAfter_0 rfl (lv_at hl 0 rfl) ?_
  refine lv_if_ne (tgt := 9) hx hb dX4_dueAfter_1 (by decide) (fun c_1 => absurd c_1 (by decide)) (fun c_1 => ?_)
  refine lv_bipush (v := 60) hx hb dX4_dueAfter_4 (by decide) ?_
  refine lv_goto (tgt := 11) hx hb dX4_dueAfter_6 (by decide) ?_
  refine lv_istore_n (lv' := [(2, .int 60), (0, .int 0), (1, .int q)]) hx hb dX4_dueAfter_11 rfl hl (by decide) rfl (fun ls hl => ?_)
  refine lv_iload_n hx hb dX4_dueAfter_12 rfl (lv_at hl 2 rfl) ?_
  refine lv_iload_n hx hb dX4_dueAfter_13 rfl (lv_at hl 0 rfl) ?_
  refine lv_idiv hx hb dX4_dueAfter_14 (by decide) ?_
  refine lv_iconst (v := 1) hx hb dX4_dueAfter_15 (by decide) ?_
  refine lv_iadd hx hb dX4_dueAfter_16 ?_
  refine lv_iload_n hx hb dX4_dueAfter_17 rfl (lv_at hl 1 rfl) ?_
  refine k_callS (n := 1) (As := [.int 0]) (rest := [.int ((q / 60) + 1)]) (st1 := [.int 12, .int ((q / 60) + 1)]) (ws1 := []) S G (c_X4_positions l D cI cS 0) gX4_dueAfter_X4_positions rfl (by decide +kernel) ⟨⟨rfl, rfl⟩, Nat.le_of_ble_eq_true rfl, Nat.le_of_ble_eq_true rfl⟩ [] (by decide) rfl [] rfl rfl rfl hl.1 rfl (Nat.le_of_ble_eq_true rfl) ⟨Nat.zero_le _, Nat.zero_le _⟩ dX4_dueAfter_18 (congrArg (fun z => Value.int z :: [.int ((q / 60) + 1)]) (by decide : (s_X4_positions 0) = 12)) rfl (fun H locs G => ?_)
  refine lv_irem hx hb dX4_dueAfter_21 (by decide) ?_
  refine lv_lit (v := (irem ((q / 60) + 1) 12)) rfl ?_
  refine lv_istore_n (lv' := [(3, .int (irem ((q / 60) + 1) 12)), (2, .int 60), (0, .int 0), (1, .int q)]) hx hb dX4_dueAfter_22 rfl hl (by decide) rfl (fun ls hl => ?_)
  refine lv_iload_n hx hb dX4_dueAfter_23 rfl (lv_at hl 0 rfl) ?_
  refine lv_if_ne (tgt := 34) hx hb dX4_dueAfter_24 (by decide) (fun c_2 => ?_) (fun c_2 => ?_)
  · skip
    refine lv_iload_n hx hb dX4_dueAfter_34 rfl (lv_at hl 0 rfl) ?_
    have es : (s_X4_dueAfter_0 q) = (irem ((q / 60) + 1) 12) := by rw [s_X4_dueAfter_0, if_neg c_2]
    exact k_iret S G hr hlk dX4_dueAfter_35 (by first | (rw [es]; done) | (rw [es]; rfl) | (simp only [es]; done) | (simp only [es]; rfl)) rfl
  · skip
    refine lv_iload_n hx hb dX4_dueAfter_27 rfl (lv_at hl 2 rfl) ?_
    refine k_callS (n := 1) (As := [.int 0]) (rest := []) (st1 := [.int 12]) (ws1 := []) S G (c_X4_positions l D cI cS 0) gX4_dueAfter_X4_positions rfl (by decide +kernel) ⟨⟨rfl, rfl⟩, Nat.le_of_ble_eq_true rfl, Nat.le_of_ble_eq_true rfl⟩ [] (by decide) rfl [] rfl rfl rfl hl.1 rfl (Nat.le_of_ble_eq_true rfl) ⟨Nat.zero_le _, Nat.zero_le _⟩ dX4_dueAfter_28 (congrArg (fun z => Value.int z :: []) (by decide : (s_X4_positions 0) = 12)) rfl (fun H locs G => ?_)
    refine lv_goto (tgt := 35) hx hb dX4_dueAfter_31 (by decide) ?_
    have es : (s_X4_dueAfter_0 q) = 12 := by rw [s_X4_dueAfter_0, if_pos c_2]
    exact k_iret S G hr hlk dX4_dueAfter_35 (by first | (rw [es]; done) | (rw [es]; rfl) | (simp only [es]; done) | (simp only [es]; rfl)) rfl
def s_X4_dueAfter_1 (q : Int32) : Int32 := (if (irem ((q / 15) + 1) 4) = 0 then 4 else (irem ((q / 15) + 1) 4))
set_option maxHeartbeats 4000000 in
set_option maxRecDepth 100000 in
theorem c_X4_dueAfter_1 (l : Launch) (D : va_G) (cI cS : ClassId) (q : Int32) : Ct l yX4_dueAfter wsX4_dueAfter ({ frames := 1, cells := 0, slots := 0, locals := 20 }) D (tyL cI cS) [.int 1, .int q] [] (some (.int (s_X4_dueAfter_1 q))) [] := by
  refine Ct.of (cc := cX4_dueAfter) (maxL := 4) (ret := (some .int)) (by decide) rfl (Nat.le_of_ble_eq_true rfl) ?_
  intro p ev s m args below meth c A ls S hr hlk G hl
  have hx := S.1
  have hb := S.2.1
  have hown : s.vm.findClass RX4 = some m.cls := S.2.2.2.1
  have hts := S.2.2.2.2
  have hl : lv_has ls 4 [(0, .int 1), (1, .int q)] := hl
  refine lv_iload_n hx hb dX4_dueAfter_0 rfl (lv_at hl 0 rfl) ?_
  refine lv_if_ne (tgt := 9) hx hb dX4_dueAfter_1 (by decide) (fun c_1 => ?_) (fun c_1 => absurd c_1 (by decide))
  refine lv_bipush (v := 15) hx hb dX4_dueAfter_9 (by decide) ?_
  refine lv_istore_n (lv' := [(2, .int 15), (0, .int 1), (1, .int q)]) hx hb dX4_dueAfter_11 rfl hl (by decide) rfl (fun ls hl => ?_)
  refine lv_iload_n hx hb dX4_dueAfter_12 rfl (lv_at hl 2 rfl) ?_
  refine lv_iload_n hx hb dX4_dueAfter_13 rfl (lv_at hl 0 rfl) ?_
  refine lv_idiv hx hb dX4_dueAfter_14 (by decide) ?_
  refine lv_iconst (v := 1) hx hb dX4_dueAfter_15 (by decide) ?_
  refine lv_iadd hx hb dX4_dueAfter_16 ?_
  refine lv_iload_n hx hb dX4_dueAfter_17 rfl (lv_at hl 1 rfl) ?_
  refine k_callS (n := 1) (As := [.int 1]) (rest := [.int ((q / 15) + 1)]) (st1 := [.int 4, .int ((q / 15) + 1)]) (ws1 := []) S G (c_X4_positions l D cI cS 1) gX4_dueAfter_X4_positions rfl (by decide +kernel) ⟨⟨rfl, rfl⟩, Nat.le_of_ble_eq_true rfl, Nat.le_of_ble_eq_true rfl⟩ [] (by decide) rfl [] rfl rfl rfl hl.1 rfl (Nat.le_of_ble_eq_true rfl) ⟨Nat.zero_le _, Nat.zero_le _⟩ dX4_dueAfter_18 (congrArg (fun z => Value.int z :: [.int ((q / 15) + 1)]) (by decide : (s_X4_positions 1) = 4)) rfl (fun H locs G => ?_)
  refine lv_irem hx hb dX4_dueAfter_21 (by decide) ?_
  refine lv_lit (v := (irem ((q / 15) + 1) 4)) rfl ?_
  refine lv_istore_n (lv' := [(3, .int (irem ((q / 15) + 1) 4)), (2, .int 15), (0, .int 1), (1, .int q)]) hx hb dX4_dueAfter_22 rfl hl (by decide) rfl (fun ls hl => ?_)
  refine lv_iload_n hx hb dX4_dueAfter_23 rfl (lv_at hl 0 rfl) ?_
  refine lv_if_ne (tgt := 34) hx hb dX4_dueAfter_24 (by decide) (fun c_2 => ?_) (fun c_2 => ?_)
  · skip
    refine lv_iload_n hx hb dX4_dueAfter_34 rfl (lv_at hl 0 rfl) ?_
    have es : (s_X4_dueAfter_1 q) = (irem ((q / 15) + 1) 4) := by rw [s_X4_dueAfter_1, if_neg c_2]
    exact k_iret S G hr hlk dX4_dueAfter_35 (by first | (rw [es]; done) | (rw [es]; rfl) | (simp only [es]; done) | (simp only [es]; rfl)) rfl
  · skip
    refine lv_iload_n hx hb dX4_dueAfter_27 rfl (lv_at hl 2 rfl) ?_
    refine k_callS (n := 1) (As := [.int 1]) (rest := []) (st1 := [.int 4]) (ws1 := []) S G (c_X4_positions l D cI cS 1) gX4_dueAfter_X4_positions rfl (by decide +kernel) ⟨⟨rfl, rfl⟩, Nat.le_of_ble_eq_true rfl, Nat.le_of_ble_eq_true rfl⟩ [] (by decide) rfl [] rfl rfl rfl hl.1 rfl (Nat.le_of_ble_eq_true rfl) ⟨Nat.zero_le _, Nat.zero_le _⟩ dX4_dueAfter_28 (congrArg (fun z => Value.int z :: []) (by decide : (s_X4_positions 1) = 4)) rfl (fun H locs G => ?_)
    refine lv_goto (tgt := 35) hx hb dX4_dueAfter_31 (by decide) ?_
    have es : (s_X4_dueAfter_1 q) = 4 := by rw [s_X4_dueAfter_1, if_pos c_2]
    exact k_iret S G hr hlk dX4_dueAfter_35 (by first | (rw [es]; done) | (rw [es]; rfl) | (simp only [es]; done) | (simp only [es]; rfl)) rfl
theorem cpy_succ (F G : Nat → Int32) (i j t : Nat) : upd (va_cpy F G i j t) (j + t) (F (i + t)) = va_cpy F G i j (t + 1) := by
  funext x
  unfold upd
  by_cases h : x = j + t
  · rw [if_pos h, pk_cpy_in (by omega) (by omega), show x - j = t by omega]
  · rw [if_neg h]
    by_cases h2 : j ≤ x ∧ x < j + t
    · rw [pk_cpy_in h2.1 h2.2, pk_cpy_in h2.1 (by omega)]
    · rw [pk_cpy_out (by omega), pk_cpy_out (by omega)]
theorem cpy_zero (F G : Nat → Int32) (i j : Nat) : va_cpy F G i j 0 = G := by
  funext x
  exact pk_cpy_out (by omega)
def cpOk (i j : Int32) (na nb : Nat) : Prop := (0 ≤ i.toInt ∧ i.toInt + 39 ≤ na) ∧ (0 ≤ j.toInt ∧ j.toInt + 39 ≤ nb) ∧ na < 1000 ∧ nb < 1000
theorem cp_nat {i : Int32} (h : 0 ≤ i.toInt) : ∃ n : Nat, n < 2 ^ 31 ∧ i = nI n ∧ i.toNatClampNeg = n ∧ i.toInt = n := by
  obtain ⟨n, hn, rfl⟩ := nI_of (x := i) (by rw [Int32.lt_iff_toInt_lt]; exact Int.not_lt.mpr h)
  exact ⟨n, hn, rfl, nI_clamp hn, nI_toInt hn⟩
set_option maxHeartbeats 4000000 in
set_option maxRecDepth 100000 in
theorem lp_X4_copy (l : Launch) (D : va_G) (cI cS : ClassId) (src : Nat) (dst : Nat) (na : Nat) (nb : Nat) (F : Nat → Int32) (G0 : Nat → Int32) (i0 : Nat) (j0 : Nat) {p : Program} {ev : Env} {s : State} {m : MethodId} {args : Array Value} {below : List Frame} {meth : Method} {c : Code} {A : Nat → Prop} {Q : State → Prop} (S : CallFix p m c cX4_copy 5 s args wsX4_copy RX4)  :
    i0 + 39 ≤ na → j0 + 39 ≤ nb → na < 1000 → nb < 1000 → ∀ (n t : Nat), t + n = 39 → (∀ (H : Heap) (locs : List Loc) (ls : Array Slot), Gd D (tyL cI cS) A s.heap s [(src, .inl (cI, na, .inl F)), (dst, .inl (cI, nb, .inl (va_cpy F G0 i0 j0 39)))] H locs → lv_has ls 5 [(4, .int (nI 39))] → W p l ev ({ frames := 0, cells := 0, slots := 0, locals := 0 }) s m args below meth c H locs 0 0 Q (F0 m 28 ls [])) → ∀ (H : Heap) (locs : List Loc) (ls : Array Slot), Gd D (tyL cI cS) A s.heap s [(src, .inl (cI, na, .inl F)), (dst, .inl (cI, nb, .inl (va_cpy F G0 i0 j0 t)))] H locs → lv_has ls 5 [(4, .int (nI t)), (3, .int (nI j0)), (2, .ref dst), (1, .int (nI i0)), (0, .ref src)] → W p l ev ({ frames := 0, cells := 0, slots := 0, locals := 0 }) s m args below meth c H locs 0 0 Q (F0 m 3 ls []) := by
  have hx := S.1
  have hb := S.2.1
  have hown : s.vm.findClass RX4 = some m.cls := S.2.2.2.1
  have hts := S.2.2.2.2
  intro h1 h2 h3 h4 n
  induction n with
  | zero =>
    intro t hin hk H locs ls G hl
    refine lv_iload hx hb dX4_copy_3 (lv_at hl 0 rfl) ?_
    refine lv_bipush (v := 39) hx hb dX4_copy_5 (by decide) ?_
    refine lv_icmp_ge (tgt := 28) hx hb dX4_copy_7 (by decide) (fun c_1 => ?_) (fun c_1 => absurd (show (39 : Int32) ≤ nI t from nI_le (a := 39) (by omega) (by omega)) c_1)
    obtain rfl : t = 39 := by omega
    exact hk _ _ ls G (lv_sub hl [0] rfl)
  | succ n ih =>
    intro t hin hk H locs ls G hl
    refine lv_iload hx hb dX4_copy_3 (lv_at hl 0 rfl) ?_
    refine lv_bipush (v := 39) hx hb dX4_copy_5 (by decide) ?_
    refine lv_icmp_ge (tgt := 28) hx hb dX4_copy_7 (by decide) (fun c_1 => absurd c_1 (show ¬ (39 : Int32) ≤ nI t from nI_ge (b := 39) (by omega) (by decide))) (fun c_1 => ?_)
    refine lv_aload_n hx hb dX4_copy_10 rfl (lv_at hl 2 rfl) ?_
    refine lv_iload_n hx hb dX4_copy_11 rfl (lv_at hl 1 rfl) ?_
    refine lv_iload hx hb dX4_copy_12 (lv_at hl 0 rfl) ?_
    refine lv_iadd hx hb dX4_copy_14 ?_
    refine lv_lit (v := (nI (j0 + t))) (nI_add j0 t) ?_
    refine lv_aload_n hx hb dX4_copy_15 rfl (lv_at hl 4 rfl) ?_
    refine lv_iload_n hx hb dX4_copy_16 rfl (lv_at hl 3 rfl) ?_
    refine lv_iload hx hb dX4_copy_17 (lv_at hl 0 rfl) ?_
    refine lv_iadd hx hb dX4_copy_19 ?_
    refine lv_lit (v := (nI (i0 + t))) (nI_add i0 t) ?_
    refine k_iald (x := (F (i0 + t))) S G 0 0 rfl rfl (vp_in_nI (by omega) (by omega)) (congrArg F (nI_clamp (show i0 + t < 2 ^ 31 by omega))) dX4_copy_20 ?_
    refine k_iast (ws1 := [(src, .inl (cI, na, .inl F)), (dst, .inl (cI, nb, .inl (upd (va_cpy F G0 i0 j0 t) (j0 + t) (F (i0 + t)))))]) S G 1 0 rfl rfl (vp_in_nI (by omega) (by omega)) dX4_copy_21 (by rw [(nI_clamp (show j0 + t < 2 ^ 31 by omega))]; rfl) (fun H locs G => ?_)
    refine lv_iinc (v := (nI (t + 1))) (lv' := [(4, .int (nI (t + 1))), (3, .int (nI j0)), (2, .ref dst), (1, .int (nI i0)), (0, .ref src)]) hx hb dX4_copy_22 hl (k := 0) rfl (nI_1 t) (by decide) rfl (fun ls hl => ?_)
    refine lv_goto (tgt := 3) hx hb dX4_copy_25 (by decide) ?_
    exact ih (t + 1) (by omega) hk _ _ ls (Gd.eq G (by rw [cpy_succ])) (lv_sub hl [0, 1, 2, 3, 4] rfl)
set_option maxHeartbeats 4000000 in
set_option maxRecDepth 100000 in
theorem c_X4_copy (l : Launch) (D : va_G) (cI cS : ClassId) (src : Nat) (dst : Nat) (na : Nat) (nb : Nat) (F : Nat → Int32) (G0 : Nat → Int32) (i : Int32) (j : Int32) (hij : cpOk i j na nb) : Ct l yX4_copy wsX4_copy ({ frames := 0, cells := 0, slots := 0, locals := 0 }) D (tyL cI cS) [.ref src, .int i, .ref dst, .int j] [(src, .inl (cI, na, .inl F)), (dst, .inl (cI, nb, .inl G0))] none [(src, .inl (cI, na, .inl F)), (dst, .inl (cI, nb, .inl (va_cpy F G0 i.toNatClampNeg j.toNatClampNeg 39)))] := by
  refine Ct.of (cc := cX4_copy) (maxL := 5) (ret := none) (by decide) rfl (Nat.le_of_ble_eq_true rfl) ?_
  intro p ev s m args below meth c A ls S hr hlk G hl
  have hx := S.1
  have hb := S.2.1
  have hown : s.vm.findClass RX4 = some m.cls := S.2.2.2.1
  have hts := S.2.2.2.2
  have hl : lv_has ls 5 [(0, .ref src), (1, .int i), (2, .ref dst), (3, .int j)] := hl
  refine lv_iconst (v := 0) hx hb dX4_copy_0 (by decide) ?_
  refine lv_istore (lv' := [(4, .int 0), (0, .ref src), (1, .int i), (2, .ref dst), (3, .int j)]) hx hb dX4_copy_1 hl (by decide) rfl (fun ls hl => ?_)
  obtain ⟨⟨a1, a2⟩, ⟨a3, a4⟩, a5, a6⟩ := hij
  obtain ⟨i0, b1, b2, b3, b4⟩ := cp_nat a1
  obtain ⟨j0, d1, d2, d3, d4⟩ := cp_nat a3
  rw [b3, d3]
  refine lp_X4_copy l D cI cS src dst na nb F G0 i0 j0 S (by omega) (by omega) a5 a6 39 0 (by omega) (fun H locs ls G hl => ?_) _ _ ls (Gd.eq G (by rw [cpy_zero])) (by rw [b2, d2] at hl; exact lv_sub hl [0, 4, 3, 2, 1] rfl)
  exact k_vret S G hr hlk dX4_copy_28 rfl
