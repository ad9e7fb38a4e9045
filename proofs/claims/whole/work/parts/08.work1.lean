def s_X3_isTrain (q : Int32) : Int32 := (if q = 0 then 1 else (if q = 1 then 1 else 0))
set_option maxHeartbeats 4000000 in
set_option maxRecDepth 100000 in
theorem c_X3_isTrain (l : Launch) (D : va_G) (cI cS : ClassId) (q : Int32) : Ct l yX3_isTrain wsX3_isTrain ({ frames := 0, cells := 0, slots := 0, locals := 0 }) D (tyL cI cS) [.int q] [] (some (.int (s_X3_isTrain q))) [] := by
  refine Ct.of (cc := cX3_isTrain) (maxL := 1) (ret := (some .boolean)) (by decide) rfl (Nat.le_of_ble_eq_true rfl) ?_
  intro p ev s m args below meth c A ls S hr hlk G hl
  have hx := S.1
  have hb := S.2.1
  have hown : s.vm.findClass RX3 = some m.cls := S.2.2.2.1
  have hts := S.2.2.2.2
  have hl : lv_has ls 1 [(0, .int q)] := hl
  refine lv_iload_n hx hb dX3_isTrain_0 rfl (lv_at hl 0 rfl) ?_
  refine lv_if_eq (tgt := 9) hx hb dX3_isTrain_1 (by decide) (fun c_1 => ?_) (fun c_1 => ?_)
  · skip
    refine lv_iconst (v := 1) hx hb dX3_isTrain_9 (by decide) ?_
    refine lv_goto (tgt := 14) hx hb dX3_isTrain_10 (by decide) ?_
    have es : (s_X3_isTrain q) = 1 := by rw [s_X3_isTrain, if_pos c_1]
    exact k_zret S G hr hlk dX3_isTrain_14 (by decide) (by first | (rw [es]; done) | (rw [es]; rfl) | (simp only [es]; done) | (simp only [es]; rfl)) rfl
  · skip
    refine lv_iload_n hx hb dX3_isTrain_4 rfl (lv_at hl 0 rfl) ?_
    refine lv_iconst (v := 1) hx hb dX3_isTrain_5 (by decide) ?_
    refine lv_icmp_ne (tgt := 13) hx hb dX3_isTrain_6 (by decide) (fun c_2 => ?_) (fun c_2 => ?_)
    · skip
      refine lv_iconst (v := 0) hx hb dX3_isTrain_13 (by decide) ?_
      have es : (s_X3_isTrain q) = 0 := by rw [s_X3_isTrain, if_neg c_1, if_neg c_2]
      exact k_zret S G hr hlk dX3_isTrain_14 (by decide) (by first | (rw [es]; done) | (rw [es]; rfl) | (simp only [es]; done) | (simp only [es]; rfl)) rfl
    · skip
      refine lv_iconst (v := 1) hx hb dX3_isTrain_9 (by decide) ?_
      refine lv_goto (tgt := 14) hx hb dX3_isTrain_10 (by decide) ?_
      have es : (s_X3_isTrain q) = 1 := by rw [s_X3_isTrain, if_neg c_1, if_pos c_2]
      exact k_zret S G hr hlk dX3_isTrain_14 (by decide) (by first | (rw [es]; done) | (rw [es]; rfl) | (simp only [es]; done) | (simp only [es]; rfl)) rfl
def s_X3_isMinute (q : Int32) : Int32 := (if q < 0 then 0 else (if 1440 ≤ q then 0 else 1))
set_option maxHeartbeats 4000000 in
set_option maxRecDepth 100000 in
theorem c_X3_isMinute (l : Launch) (D : va_G) (cI cS : ClassId) (q : Int32) : Ct l yX3_isMinute wsX3_isMinute ({ frames := 0, cells := 0, slots := 0, locals := 0 }) D (tyL cI cS) [.int q] [] (some (.int (s_X3_isMinute q))) [] := by
  refine Ct.of (cc := cX3_isMinute) (maxL := 1) (ret := (some .boolean)) (by decide) rfl (Nat.le_of_ble_eq_true rfl) ?_
  intro p ev s m args below meth c A ls S hr hlk G hl
  have hx := S.1
  have hb := S.2.1
  have hown : s.vm.findClass RX3 = some m.cls := S.2.2.2.1
  have hts := S.2.2.2.2
  have hl : lv_has ls 1 [(0, .int q)] := hl
  refine lv_iload_n hx hb dX3_isMinute_0 rfl (lv_at hl 0 rfl) ?_
  refine lv_if_lt (tgt := 15) hx hb dX3_isMinute_1 (by decide) (fun c_1 => ?_) (fun c_1 => ?_)
  · skip
    refine lv_iconst (v := 0) hx hb dX3_isMinute_15 (by decide) ?_
    have es : (s_X3_isMinute q) = 0 := by rw [s_X3_isMinute, if_pos c_1]
    exact k_zret S G hr hlk dX3_isMinute_16 (by decide) (by first | (rw [es]; done) | (rw [es]; rfl) | (simp only [es]; done) | (simp only [es]; rfl)) rfl
  · skip
    refine lv_iload_n hx hb dX3_isMinute_4 rfl (lv_at hl 0 rfl) ?_
    refine lv_sipush (v := 1440) hx hb dX3_isMinute_5 (by decide) ?_
    refine lv_icmp_ge (tgt := 15) hx hb dX3_isMinute_8 (by decide) (fun c_2 => ?_) (fun c_2 => ?_)
    · skip
      refine lv_iconst (v := 0) hx hb dX3_isMinute_15 (by decide) ?_
      have es : (s_X3_isMinute q) = 0 := by rw [s_X3_isMinute, if_neg c_1, if_pos c_2]
      exact k_zret S G hr hlk dX3_isMinute_16 (by decide) (by first | (rw [es]; done) | (rw [es]; rfl) | (simp only [es]; done) | (simp only [es]; rfl)) rfl
    · skip
      refine lv_iconst (v := 1) hx hb dX3_isMinute_11 (by decide) ?_
      refine lv_goto (tgt := 16) hx hb dX3_isMinute_12 (by decide) ?_
      have es : (s_X3_isMinute q) = 1 := by rw [s_X3_isMinute, if_neg c_1, if_neg c_2]
      exact k_zret S G hr hlk dX3_isMinute_16 (by decide) (by first | (rw [es]; done) | (rw [es]; rfl) | (simp only [es]; done) | (simp only [es]; rfl)) rfl
def s_X3_errorIndex (q : Int32) : Int32 := ((-2) - q)
set_option maxHeartbeats 4000000 in
set_option maxRecDepth 100000 in
theorem c_X3_errorIndex (l : Launch) (D : va_G) (cI cS : ClassId) (q : Int32) : Ct l yX3_errorIndex wsX3_errorIndex ({ frames := 0, cells := 0, slots := 0, locals := 0 }) D (tyL cI cS) [.int q] [] (some (.int (s_X3_errorIndex q))) [] := by
  refine Ct.of (cc := cX3_errorIndex) (maxL := 1) (ret := (some .int)) (by decide) rfl (Nat.le_of_ble_eq_true rfl) ?_
  intro p ev s m args below meth c A ls S hr hlk G hl
  have hx := S.1
  have hb := S.2.1
  have hown : s.vm.findClass RX3 = some m.cls := S.2.2.2.1
  have hts := S.2.2.2.2
  have hl : lv_has ls 1 [(0, .int q)] := hl
  refine lv_bipush (v := (-2)) hx hb dX3_errorIndex_0 (by decide) ?_
  refine lv_iload_n hx hb dX3_errorIndex_2 rfl (lv_at hl 0 rfl) ?_
  refine lv_isub hx hb dX3_errorIndex_3 ?_
  have es : (s_X3_errorIndex q) = ((-2) - q) := rfl
  exact k_iret S G hr hlk dX3_errorIndex_4 (by first | (rw [es]; done) | (rw [es]; rfl) | (simp only [es]; done) | (simp only [es]; rfl)) rfl
set_option maxHeartbeats 4000000 in
set_option maxRecDepth 100000 in
theorem c_X3_refuse_2 (l : Launch) (D : va_G) (cI cS : ClassId) (nw : Nat) (x : Nat) (sv : Nat) (tl : Nat) (er : Nat) (sc : Int32) (z : Nat → Int32) : Ct l yX3_refuse wsX3_refuse ({ frames := 1, cells := 0, slots := 0, locals := 20 }) D (tyL cI cS) [.ref x, .int (-2)] [(x, .inr (3, [.ref nw, .ref sv, .ref tl, .ref er, .int sc])), (er, .inl (cI, 3, .inl z))] (some (.int (-2))) [(x, .inr (3, [.ref nw, .ref sv, .ref tl, .ref er, .int sc])), (er, .inl (cI, 3, .inl (upd z 0 ((z 0) + 1))))] := by
  refine Ct.of (cc := cX3_refuse) (maxL := 2) (ret := (some .int)) (by decide) rfl (Nat.le_of_ble_eq_true rfl) ?_
  intro p ev s m args below meth c A ls S hr hlk G hl
  have hx := S.1
  have hb := S.2.1
  have hown : s.vm.findClass RX3 = some m.cls := S.2.2.2.1
  have hts := S.2.2.2.2
  have hl : lv_has ls 2 [(0, .ref x), (1, .int (-2))] := hl
  have hiX3 : ∀ w ∈ wsX30, w ∈ wsX3_refuse := by decide +kernel
  have hf29 := hts (.fieldLink RX3 29 "StrikingWork" "errors" "[I") (by decide +kernel)
  refine lv_aload_n hx hb dX3_refuse_0 rfl (lv_at hl 0 rfl) ?_
  refine k_get (v := .ref er) S G 0 rfl rfl hiX3 3 (by decide) hf29 rfl dX3_refuse_1 ?_
  refine lv_iload_n hx hb dX3_refuse_4 rfl (lv_at hl 1 rfl) ?_
  refine k_callS (n := 1) (As := [.int (-2)]) (rest := [.ref er]) (st1 := [.int 0, .ref er]) (ws1 := [(x, .inr (3, [.ref nw, .ref sv, .ref tl, .ref er, .int sc])), (er, .inl (cI, 3, .inl z))]) S G (c_X3_errorIndex l D cI cS (-2)) gX3_refuse_X3_errorIndex rfl (by decide +kernel) ⟨⟨rfl, rfl⟩, Nat.le_of_ble_eq_true rfl, Nat.le_of_ble_eq_true rfl⟩ [] (by decide) rfl [] rfl rfl rfl hl.1 rfl (Nat.le_of_ble_eq_true rfl) ⟨Nat.zero_le _, Nat.zero_le _⟩ dX3_refuse_5 (congrArg (fun z => Value.int z :: [.ref er]) (by decide : (s_X3_errorIndex (-2)) = 0)) rfl (fun H locs G => ?_)
  refine lv_dup2_11 hx hb dX3_refuse_8 rfl rfl ?_
  refine k_iald (x := (z 0)) S G 1 0 rfl rfl (by unfold vp_in; decide) rfl dX3_refuse_9 ?_
  refine lv_iconst (v := 1) hx hb dX3_refuse_10 (by decide) ?_
  refine lv_iadd hx hb dX3_refuse_11 ?_
  refine k_iast (ws1 := [(x, .inr (3, [.ref nw, .ref sv, .ref tl, .ref er, .int sc])), (er, .inl (cI, 3, .inl (upd z 0 ((z 0) + 1))))]) S G 1 0 rfl rfl (by unfold vp_in; decide) dX3_refuse_12 rfl (fun H locs G => ?_)
  refine lv_iload_n hx hb dX3_refuse_13 rfl (lv_at hl 1 rfl) ?_
  exact k_iret S G hr hlk dX3_refuse_14 rfl rfl
set_option maxHeartbeats 4000000 in
set_option maxRecDepth 100000 in
theorem c_X3_refuse_3 (l : Launch) (D : va_G) (cI cS : ClassId) (nw : Nat) (x : Nat) (sv : Nat) (tl : Nat) (er : Nat) (sc : Int32) (z : Nat → Int32) : Ct l yX3_refuse wsX3_refuse ({ frames := 1, cells := 0, slots := 0, locals := 20 }) D (tyL cI cS) [.ref x, .int (-3)] [(x, .inr (3, [.ref nw, .ref sv, .ref tl, .ref er, .int sc])), (er, .inl (cI, 3, .inl z))] (some (.int (-3))) [(x, .inr (3, [.ref nw, .ref sv, .ref tl, .ref er, .int sc])), (er, .inl (cI, 3, .inl (upd z 1 ((z 1) + 1))))] := by
  refine Ct.of (cc := cX3_refuse) (maxL := 2) (ret := (some .int)) (by decide) rfl (Nat.le_of_ble_eq_true rfl) ?_
  intro p ev s m args below meth c A ls S hr hlk G hl
  have hx := S.1
  have hb := S.2.1
  have hown : s.vm.findClass RX3 = some m.cls := S.2.2.2.1
  have hts := S.2.2.2.2
  have hl : lv_has ls 2 [(0, .ref x), (1, .int (-3))] := hl
  have hiX3 : ∀ w ∈ wsX30, w ∈ wsX3_refuse := by decide +kernel
  have hf29 := hts (.fieldLink RX3 29 "StrikingWork" "errors" "[I") (by decide +kernel)
  refine lv_aload_n hx hb dX3_refuse_0 rfl (lv_at hl 0 rfl) ?_
  refine k_get (v := .ref er) S G 0 rfl rfl hiX3 3 (by decide) hf29 rfl dX3_refuse_1 ?_
  refine lv_iload_n hx hb dX3_refuse_4 rfl (lv_at hl 1 rfl) ?_
  refine k_callS (n := 1) (As := [.int (-3)]) (rest := [.ref er]) (st1 := [.int 1, .ref er]) (ws1 := [(x, .inr (3, [.ref nw, .ref sv, .ref tl, .ref er, .int sc])), (er, .inl (cI, 3, .inl z))]) S G (c_X3_errorIndex l D cI cS (-3)) gX3_refuse_X3_errorIndex rfl (by decide +kernel) ⟨⟨rfl, rfl⟩, Nat.le_of_ble_eq_true rfl, Nat.le_of_ble_eq_true rfl⟩ [] (by decide) rfl [] rfl rfl rfl hl.1 rfl (Nat.le_of_ble_eq_true rfl) ⟨Nat.zero_le _, Nat.zero_le _⟩ dX3_refuse_5 (congrArg (fun z => Value.int z :: [.ref er]) (by decide : (s_X3_errorIndex (-3)) = 1)) rfl (fun H locs G => ?_)
  refine lv_dup2_11 hx hb dX3_refuse_8 rfl rfl ?_
  refine k_iald (x := (z 1)) S G 1 0 rfl rfl (by unfold vp_in; decide) rfl dX3_refuse_9 ?_
  refine lv_iconst (v := 1) hx hb dX3_refuse_10 (by decide) ?_
  refine lv_iadd hx hb dX3_refuse_11 ?_
  refine k_iast (ws1 := [(x, .inr (3, [.ref nw, .ref sv, .ref tl, .ref er, .int sc])), (er, .inl (cI, 3, .inl (upd z 1 ((z 1) + 1))))]) S G 1 0 rfl rfl (by unfold vp_in; decide) dX3_refuse_12 rfl (fun H locs G => ?_)
  refine lv_iload_n hx hb dX3_refuse_13 rfl (lv_at hl 1 rfl) ?_
  exact k_iret S G hr hlk dX3_refuse_14 rfl rfl
set_option maxHeartbeats 4000000 in
set_option maxRecDepth 100000 in
theorem c_X3_refuse_4 (l : Launch) (D : va_G) (cI cS : ClassId) (nw : Nat) (x : Nat) (sv : Nat) (tl : Nat) (er : Nat) (sc : Int32) (z : Nat → Int32) : Ct l yX3_refuse wsX3_refuse ({ frames := 1, cells := 0, slots := 0, locals := 20 }) D (tyL cI cS) [.ref x, .int (-4)] [(x, .inr (3, [.ref nw, .ref sv, .ref tl, .ref er, .int sc])), (er, .inl (cI, 3, .inl z))] (some (.int (-4))) [(x, .inr (3, [.ref nw, .ref sv, .ref tl, .ref er, .int sc])), (er, .inl (cI, 3, .inl (upd z 2 ((z 2) + 1))))] := by
  refine Ct.of (cc := cX3_refuse) (maxL := 2) (ret := (some .int)) (by decide) rfl (Nat.le_of_ble_eq_true rfl) ?_
  intro p ev s m args below meth c A ls S hr hlk G hl
  have hx := S.1
  have hb := S.2.1
  have hown : s.vm.findClass RX3 = some m.cls := S.2.2.2.1
  have hts := S.2.2.2.2
  have hl : lv_has ls 2 [(0, .ref x), (1, .int (-4))] := hl
  have hiX3 : ∀ w ∈ wsX30, w ∈ wsX3_refuse := by decide +kernel
  have hf29 := hts (.fieldLink RX3 29 "StrikingWork" "errors" "[I") (by decide +kernel)
  refine lv_aload_n hx hb dX3_refuse_0 rfl (lv_at hl 0 rfl) ?_
  refine k_get (v := .ref er) S G 0 rfl rfl hiX3 3 (by decide) hf29 rfl dX3_refuse_1 ?_
  refine lv_iload_n hx hb dX3_refuse_4 rfl (lv_at hl 1 rfl) ?_
  refine k_callS (n := 1) (As := [.int (-4)]) (rest := [.ref er]) (st1 := [.int 2, .ref er]) (ws1 := [(x, .inr (3, [.ref nw, .ref sv, .ref tl, .ref er, .int sc])), (er, .inl (cI, 3, .inl z))]) S G (c_X3_errorIndex l D cI cS (-4)) gX3_refuse_X3_errorIndex rfl (by decide +kernel) ⟨⟨rfl, rfl⟩, Nat.le_of_ble_eq_true rfl, Nat.le_of_ble_eq_true rfl⟩ [] (by decide) rfl [] rfl rfl rfl hl.1 rfl (Nat.le_of_ble_eq_true rfl) ⟨Nat.zero_le _, Nat.zero_le _⟩ dX3_refuse_5 (congrArg (fun z => Value.int z :: [.ref er]) (by decide : (s_X3_errorIndex (-4)) = 2)) rfl (fun H locs G => ?_)
  refine lv_dup2_11 hx hb dX3_refuse_8 rfl rfl ?_
  refine k_iald (x := (z 2)) S G 1 0 rfl rfl (by unfold vp_in; decide) rfl dX3_refuse_9 ?_
  refine lv_iconst (v := 1) hx hb dX3_refuse_10 (by decide) ?_
  refine lv_iadd hx hb dX3_refuse_11 ?_
  refine k_iast (ws1 := [(x, .inr (3, [.ref nw, .ref sv, .ref tl, .ref er, .int sc])), (er, .inl (cI, 3, .inl (upd z 2 ((z 2) + 1))))]) S G 1 0 rfl rfl (by unfold vp_in; decide) dX3_refuse_12 rfl (fun H locs G => ?_)
  refine lv_iload_n hx hb dX3_refuse_13 rfl (lv_at hl 1 rfl) ?_
  exact k_iret S G hr hlk dX3_refuse_14 rfl rfl
def s_X3_nextDue (z : Nat → Int32) (r : Nat → Int32) (tn : Int32) : Int32 × (Nat → Int32) := (if tn = 0 then ((s_X2_dueAfter 0 (r 0)), z) else (if tn = 1 then ((s_X2_dueAfter 1 (r 0)), z) else ((-2), (upd z 0 ((z 0) + 1)))))
set_option maxHeartbeats 4000000 in
set_option maxRecDepth 100000 in
theorem c_X3_nextDue (l : Launch) (D : va_G) (cI cS : ClassId) (x : Nat) (sv : Nat) (tl : Nat) (er : Nat) (sc : Int32) (z : Nat → Int32) (a : Nat → Nat) (r : Nat → Int32) (e : Nat → Nat → Int32) (tn : Int32) : Ct l yX3_nextDue wsX3_nextDue ({ frames := 3, cells := 0, slots := 0, locals := 63 }) D (tyL cI cS) [.ref x, .int tn] ((x, .inr (3, [.ref (a 0), .ref sv, .ref tl, .ref er, .int sc])) :: (er, .inl (cI, 3, .inl z)) :: stW cI a r e ([])) (some (.int ((s_X3_nextDue z r tn).1))) ((x, .inr (3, [.ref (a 0), .ref sv, .ref tl, .ref er, .int sc])) :: (er, .inl (cI, 3, .inl ((s_X3_nextDue z r tn).2))) :: stW cI a r e ([])) := by
  refine Ct.of (cc := cX3_nextDue) (maxL := 2) (ret := (some .int)) (by decide) rfl (Nat.le_of_ble_eq_true rfl) ?_
  intro p ev s m args below meth c A ls S hr hlk G hl
  have hx := S.1
  have hb := S.2.1
  have hown : s.vm.findClass RX3 = some m.cls := S.2.2.2.1
  have hts := S.2.2.2.2
  have hl : lv_has ls 2 [(0, .ref x), (1, .int tn)] := hl
  have hiX0 : ∀ w ∈ wsX00, w ∈ wsX3_nextDue := by decide +kernel
  have hiX3 : ∀ w ∈ wsX30, w ∈ wsX3_nextDue := by decide +kernel
  have hf10 := hts (.fieldLink RX3 10 "StrikingWork" "now" "LStrikingWork$State;") (by decide +kernel)
  have hf83 := hts (.fieldLink RX3 83 "StrikingWork$State" "minute" "I") (by decide +kernel)
  by_cases c_1 : tn = 0
  · skip
    have hl : lv_has ls 2 [(0, .ref x), (1, .int 0)] := by rw [← c_1]; exact hl
    refine lv_iload_n hx hb dX3_nextDue_0 rfl (lv_at hl 1 rfl) ?_
    refine k_callS (n := 1) (As := [.int 0]) (rest := []) (st1 := [.int 1]) (ws1 := ((x, .inr (3, [.ref (a 0), .ref sv, .ref tl, .ref er, .int sc])) :: (er, .inl (cI, 3, .inl z)) :: stW cI a r e ([]))) S G (c_X3_isTrain l D cI cS 0) gX3_nextDue_X3_isTrain rfl (by decide +kernel) ⟨⟨rfl, rfl⟩, Nat.le_of_ble_eq_true rfl, Nat.le_of_ble_eq_true rfl⟩ [] (by decide) rfl [] rfl rfl rfl hl.1 rfl (Nat.le_of_ble_eq_true rfl) ⟨Nat.zero_le _, Nat.zero_le _⟩ dX3_nextDue_1 (congrArg (fun z => Value.int z :: []) (by decide : (s_X3_isTrain 0) = 1)) rfl (fun H locs G => ?_)
    refine lv_if_eq (tgt := 28) hx hb dX3_nextDue_4 (by decide) (fun c_2 => absurd c_2 (by decide)) (fun c_2 => ?_)
    refine lv_aload_n hx hb dX3_nextDue_7 rfl (lv_at hl 0 rfl) ?_
    refine k_get (v := .ref (a 0)) S G 0 rfl rfl hiX3 0 (by decide) hf10 rfl dX3_nextDue_8 ?_
    refine lv_iload_n hx hb dX3_nextDue_11 rfl (lv_at hl 1 rfl) ?_
    refine k_callV (n := 1) (As := [.int 0]) (rest := []) (st1 := [.ref (a 1)]) (ws1 := ((x, .inr (3, [.ref (a 0), .ref sv, .ref tl, .ref er, .int sc])) :: (er, .inl (cI, 3, .inl z)) :: stW cI a r e ([]))) S G (c_X0_trainOf_0 l D cI cS a r e) gX3_nextDue_X0_trainOf rfl (by decide +kernel) ⟨⟨rfl, rfl⟩, Nat.le_of_ble_eq_true rfl, Nat.le_of_ble_eq_true rfl⟩ [2, 3, 4, 5, 6, 7, 8] (by decide) rfl [(a 0), (a 1), (a 2), (a 3), (a 4), (a 5), (a 6)] rfl rfl 2 rfl rfl rfl hl.1 rfl (Nat.le_of_ble_eq_true rfl) ⟨Nat.zero_le _, Nat.zero_le _⟩ dX3_nextDue_12 rfl rfl (fun H locs G => ?_)
    refine lv_aload_n hx hb dX3_nextDue_15 rfl (lv_at hl 0 rfl) ?_
    refine k_get (v := .ref (a 0)) S G 0 rfl rfl hiX3 0 (by decide) hf10 rfl dX3_nextDue_16 ?_
    refine k_get (v := .int (r 0)) S G 2 rfl rfl hiX0 3 (by decide) hf83 rfl dX3_nextDue_19 ?_
    refine k_callV (n := 1) (As := [.int (r 0)]) (rest := []) (st1 := [.int (s_X2_dueAfter 0 (r 0))]) (ws1 := ((x, .inr (3, [.ref (a 0), .ref sv, .ref tl, .ref er, .int sc])) :: (er, .inl (cI, 3, .inl z)) :: stW cI a r e ([]))) S G (c_X2_dueAfter l D cI cS (a 1) 0 (r 4) (r 5) (r 6) (r 7) (r 8) (r 0)) gX3_nextDue_X2_dueAfter rfl (by decide +kernel) ⟨⟨rfl, rfl⟩, Nat.le_of_ble_eq_true rfl, Nat.le_of_ble_eq_true rfl⟩ [3] (by decide) rfl [(a 1)] rfl rfl 3 rfl rfl rfl hl.1 rfl (Nat.le_of_ble_eq_true rfl) ⟨Nat.zero_le _, Nat.zero_le _⟩ dX3_nextDue_22 rfl rfl (fun H locs G => ?_)
    refine lv_goto (tgt := 34) hx hb dX3_nextDue_25 (by decide) ?_
    have es : (s_X3_nextDue z r tn) = ((s_X2_dueAfter 0 (r 0)), z) := by rw [s_X3_nextDue, if_pos c_1]
    exact k_iret S G hr hlk dX3_nextDue_34 (by first | (rw [es]; done) | (rw [es]; rfl) | (simp only [es]; done) | (simp only [es]; rfl)) (by first | (rw [es]; done) | (rw [es]; rfl) | (simp only [es]; done) | (simp only [es]; rfl))
  · skip
    by_cases c_3 : tn = 1
    · skip
      have hl : lv_has ls 2 [(0, .ref x), (1, .int 1)] := by rw [← c_3]; exact hl
      refine lv_iload_n hx hb dX3_nextDue_0 rfl (lv_at hl 1 rfl) ?_
      refine k_callS (n := 1) (As := [.int 1]) (rest := []) (st1 := [.int 1]) (ws1 := ((x, .inr (3, [.ref (a 0), .ref sv, .ref tl, .ref er, .int sc])) :: (er, .inl (cI, 3, .inl z)) :: stW cI a r e ([]))) S G (c_X3_isTrain l D cI cS 1) gX3_nextDue_X3_isTrain rfl (by decide +kernel) ⟨⟨rfl, rfl⟩, Nat.le_of_ble_eq_true rfl, Nat.le_of_ble_eq_true rfl⟩ [] (by decide) rfl [] rfl rfl rfl hl.1 rfl (Nat.le_of_ble_eq_true rfl) ⟨Nat.zero_le _, Nat.zero_le _⟩ dX3_nextDue_1 (congrArg (fun z => Value.int z :: []) (by decide : (s_X3_isTrain 1) = 1)) rfl (fun H locs G => ?_)
      refine lv_if_eq (tgt := 28) hx hb dX3_nextDue_4 (by decide) (fun c_4 => absurd c_4 (by decide)) (fun c_4 => ?_)
      refine lv_aload_n hx hb dX3_nextDue_7 rfl (lv_at hl 0 rfl) ?_
      refine k_get (v := .ref (a 0)) S G 0 rfl rfl hiX3 0 (by decide) hf10 rfl dX3_nextDue_8 ?_
      refine lv_iload_n hx hb dX3_nextDue_11 rfl (lv_at hl 1 rfl) ?_
      refine k_callV (n := 1) (As := [.int 1]) (rest := []) (st1 := [.ref (a 2)]) (ws1 := ((x, .inr (3, [.ref (a 0), .ref sv, .ref tl, .ref er, .int sc])) :: (er, .inl (cI, 3, .inl z)) :: stW cI a r e ([]))) S G (c_X0_trainOf_1 l D cI cS a r e) gX3_nextDue_X0_trainOf rfl (by decide +kernel) ⟨⟨rfl, rfl⟩, Nat.le_of_ble_eq_true rfl, Nat.le_of_ble_eq_true rfl⟩ [2, 3, 4, 5, 6, 7, 8] (by decide) rfl [(a 0), (a 1), (a 2), (a 3), (a 4), (a 5), (a 6)] rfl rfl 2 rfl rfl rfl hl.1 rfl (Nat.le_of_ble_eq_true rfl) ⟨Nat.zero_le _, Nat.zero_le _⟩ dX3_nextDue_12 rfl rfl (fun H locs G => ?_)
      refine lv_aload_n hx hb dX3_nextDue_15 rfl (lv_at hl 0 rfl) ?_
      refine k_get (v := .ref (a 0)) S G 0 rfl rfl hiX3 0 (by decide) hf10 rfl dX3_nextDue_16 ?_
      refine k_get (v := .int (r 0)) S G 2 rfl rfl hiX0 3 (by decide) hf83 rfl dX3_nextDue_19 ?_
      refine k_callV (n := 1) (As := [.int (r 0)]) (rest := []) (st1 := [.int (s_X2_dueAfter 1 (r 0))]) (ws1 := ((x, .inr (3, [.ref (a 0), .ref sv, .ref tl, .ref er, .int sc])) :: (er, .inl (cI, 3, .inl z)) :: stW cI a r e ([]))) S G (c_X2_dueAfter l D cI cS (a 2) 1 (r 9) (r 10) (r 11) (r 12) (r 13) (r 0)) gX3_nextDue_X2_dueAfter rfl (by decide +kernel) ⟨⟨rfl, rfl⟩, Nat.le_of_ble_eq_true rfl, Nat.le_of_ble_eq_true rfl⟩ [4] (by decide) rfl [(a 2)] rfl rfl 4 rfl rfl rfl hl.1 rfl (Nat.le_of_ble_eq_true rfl) ⟨Nat.zero_le _, Nat.zero_le _⟩ dX3_nextDue_22 rfl rfl (fun H locs G => ?_)
      refine lv_goto (tgt := 34) hx hb dX3_nextDue_25 (by decide) ?_
      have es : (s_X3_nextDue z r tn) = ((s_X2_dueAfter 1 (r 0)), z) := by rw [s_X3_nextDue, if_neg c_1, if_pos c_3]
      exact k_iret S G hr hlk dX3_nextDue_34 (by first | (rw [es]; done) | (rw [es]; rfl) | (simp only [es]; done) | (simp only [es]; rfl)) (by first | (rw [es]; done) | (rw [es]; rfl) | (simp only [es]; done) | (simp only [es]; rfl))
    · skip
      refine lv_iload_n hx hb dX3_nextDue_0 rfl (lv_at hl 1 rfl) ?_
      refine k_callS (n := 1) (As := [.int tn]) (rest := []) (st1 := [.int 0]) (ws1 := ((x, .inr (3, [.ref (a 0), .ref sv, .ref tl, .ref er, .int sc])) :: (er, .inl (cI, 3, .inl z)) :: stW cI a r e ([]))) S G (c_X3_isTrain l D cI cS tn) gX3_nextDue_X3_isTrain rfl (by decide +kernel) ⟨⟨rfl, rfl⟩, Nat.le_of_ble_eq_true rfl, Nat.le_of_ble_eq_true rfl⟩ [] (by decide) rfl [] rfl rfl rfl hl.1 rfl (Nat.le_of_ble_eq_true rfl) ⟨Nat.zero_le _, Nat.zero_le _⟩ dX3_nextDue_1 (congrArg (fun z => Value.int z :: []) (by rw [s_X3_isTrain, if_neg c_1, if_neg c_3])) rfl (fun H locs G => ?_)
      refine lv_if_eq (tgt := 28) hx hb dX3_nextDue_4 (by decide) (fun c_5 => ?_) (fun c_5 => absurd c_5 (by decide))
      refine lv_aload_n hx hb dX3_nextDue_28 rfl (lv_at hl 0 rfl) ?_
      refine lv_bipush (v := (-2)) hx hb dX3_nextDue_29 (by decide) ?_
      refine k_callV (n := 1) (As := [.int (-2)]) (rest := []) (st1 := [.int (-2)]) (ws1 := ((x, .inr (3, [.ref (a 0), .ref sv, .ref tl, .ref er, .int sc])) :: (er, .inl (cI, 3, .inl (upd z 0 ((z 0) + 1)))) :: stW cI a r e ([]))) S G (c_X3_refuse_2 l D cI cS (a 0) x sv tl er sc z) gX3_nextDue_X3_refuse rfl (by decide +kernel) ⟨⟨rfl, rfl⟩, Nat.le_of_ble_eq_true rfl, Nat.le_of_ble_eq_true rfl⟩ [0, 1] (by decide) rfl [x, er] rfl rfl 0 rfl rfl rfl hl.1 rfl (Nat.le_of_ble_eq_true rfl) ⟨Nat.zero_le _, Nat.zero_le _⟩ dX3_nextDue_31 rfl rfl (fun H locs G => ?_)
      have es : (s_X3_nextDue z r tn) = ((-2), (upd z 0 ((z 0) + 1))) := by rw [s_X3_nextDue, if_neg c_1, if_neg c_3]
      exact k_iret S G hr hlk dX3_nextDue_34 (by first | (rw [es]; done) | (rw [es]; rfl) | (simp only [es]; done) | (simp only [es]; rfl)) (by first | (rw [es]; done) | (rw [es]; rfl) | (simp only [es]; done) | (simp only [es]; rfl))
def s_X3_lag (z : Nat → Int32) (r : Nat → Int32) (tn : Int32) : Int32 × (Nat → Int32) := (if tn = 0 then ((s_X2_lagAt 0 (r 4) (r 5) (r 0)), z) else (if tn = 1 then ((s_X2_lagAt 1 (r 9) (r 10) (r 0)), z) else ((-2), (upd z 0 ((z 0) + 1)))))
set_option maxHeartbeats 4000000 in
set_option maxRecDepth 100000 in
theorem c_X3_lag (l : Launch) (D : va_G) (cI cS : ClassId) (x : Nat) (sv : Nat) (tl : Nat) (er : Nat) (sc : Int32) (z : Nat → Int32) (a : Nat → Nat) (r : Nat → Int32) (e : Nat → Nat → Int32) (tn : Int32) : Ct l yX3_lag wsX3_lag ({ frames := 4, cells := 0, slots := 0, locals := 85 }) D (tyL cI cS) [.ref x, .int tn] ((x, .inr (3, [.ref (a 0), .ref sv, .ref tl, .ref er, .int sc])) :: (er, .inl (cI, 3, .inl z)) :: stW cI a r e ([])) (some (.int ((s_X3_lag z r tn).1))) ((x, .inr (3, [.ref (a 0), .ref sv, .ref tl, .ref er, .int sc])) :: (er, .inl (cI, 3, .inl ((s_X3_lag z r tn).2))) :: stW cI a r e ([])) := by
  refine Ct.of (cc := cX3_lag) (maxL := 2) (ret := (some .int)) (by decide) rfl (Nat.le_of_ble_eq_true rfl) ?_
  intro p ev s m args below meth c A ls S hr hlk G hl
  have hx := S.1
  have hb := S.2.1
  have hown : s.vm.findClass RX3 = some m.cls := S.2.2.2.1
  have hts := S.2.2.2.2
  have hl : lv_has ls 2 [(0, .ref x), (1, .int tn)] := hl
  have hiX0 : ∀ w ∈ wsX00, w ∈ wsX3_lag := by decide +kernel
  have hiX3 : ∀ w ∈ wsX30, w ∈ wsX3_lag := by decide +kernel
  have hf10 := hts (.fieldLink RX3 10 "StrikingWork" "now" "LStrikingWork$State;") (by decide +kernel)
  have hf83 := hts (.fieldLink RX3 83 "StrikingWork$State" "minute" "I") (by decide +kernel)
  by_cases c_1 : tn = 0
  · skip
    have hl : lv_has ls 2 [(0, .ref x), (1, .int 0)] := by rw [← c_1]; exact hl
    refine lv_iload_n hx hb dX3_lag_0 rfl (lv_at hl 1 rfl) ?_
    refine k_callS (n := 1) (As := [.int 0]) (rest := []) (st1 := [.int 1]) (ws1 := ((x, .inr (3, [.ref (a 0), .ref sv, .ref tl, .ref er, .int sc])) :: (er, .inl (cI, 3, .inl z)) :: stW cI a r e ([]))) S G (c_X3_isTrain l D cI cS 0) gX3_lag_X3_isTrain rfl (by decide +kernel) ⟨⟨rfl, rfl⟩, Nat.le_of_ble_eq_true rfl, Nat.le_of_ble_eq_true rfl⟩ [] (by decide) rfl [] rfl rfl rfl hl.1 rfl (Nat.le_of_ble_eq_true rfl) ⟨Nat.zero_le _, Nat.zero_le _⟩ dX3_lag_1 (congrArg (fun z => Value.int z :: []) (by decide : (s_X3_isTrain 0) = 1)) rfl (fun H locs G => ?_)
    refine lv_if_eq (tgt := 28) hx hb dX3_lag_4 (by decide) (fun c_2 => absurd c_2 (by decide)) (fun c_2 => ?_)
    refine lv_aload_n hx hb dX3_lag_7 rfl (lv_at hl 0 rfl) ?_
    refine k_get (v := .ref (a 0)) S G 0 rfl rfl hiX3 0 (by decide) hf10 rfl dX3_lag_8 ?_
    refine lv_iload_n hx hb dX3_lag_11 rfl (lv_at hl 1 rfl) ?_
    refine k_callV (n := 1) (As := [.int 0]) (rest := []) (st1 := [.ref (a 1)]) (ws1 := ((x, .inr (3, [.ref (a 0), .ref sv, .ref tl, .ref er, .int sc])) :: (er, .inl (cI, 3, .inl z)) :: stW cI a r e ([]))) S G (c_X0_trainOf_0 l D cI cS a r e) gX3_lag_X0_trainOf rfl (by decide +kernel) ⟨⟨rfl, rfl⟩, Nat.le_of_ble_eq_true rfl, Nat.le_of_ble_eq_true rfl⟩ [2, 3, 4, 5, 6, 7, 8] (by decide) rfl [(a 0), (a 1), (a 2), (a 3), (a 4), (a 5), (a 6)] rfl rfl 2 rfl rfl rfl hl.1 rfl (Nat.le_of_ble_eq_true rfl) ⟨Nat.zero_le _, Nat.zero_le _⟩ dX3_lag_12 rfl rfl (fun H locs G => ?_)
    refine lv_aload_n hx hb dX3_lag_15 rfl (lv_at hl 0 rfl) ?_
    refine k_get (v := .ref (a 0)) S G 0 rfl rfl hiX3 0 (by decide) hf10 rfl dX3_lag_16 ?_
    refine k_get (v := .int (r 0)) S G 2 rfl rfl hiX0 3 (by decide) hf83 rfl dX3_lag_19 ?_
    refine k_callV (n := 1) (As := [.int (r 0)]) (rest := []) (st1 := [.int (s_X2_lagAt 0 (r 4) (r 5) (r 0))]) (ws1 := ((x, .inr (3, [.ref (a 0), .ref sv, .ref tl, .ref er, .int sc])) :: (er, .inl (cI, 3, .inl z)) :: stW cI a r e ([]))) S G (c_X2_lagAt l D cI cS (a 1) 0 (r 4) (r 5) (r 6) (r 7) (r 8) (r 0)) gX3_lag_X2_lagAt rfl (by decide +kernel) ⟨⟨rfl, rfl⟩, Nat.le_of_ble_eq_true rfl, Nat.le_of_ble_eq_true rfl⟩ [3] (by decide) rfl [(a 1)] rfl rfl 3 rfl rfl rfl hl.1 rfl (Nat.le_of_ble_eq_true rfl) ⟨Nat.zero_le _, Nat.zero_le _⟩ dX3_lag_22 rfl rfl (fun H locs G => ?_)
    refine lv_goto (tgt := 34) hx hb dX3_lag_25 (by decide) ?_
    have es : (s_X3_lag z r tn) = ((s_X2_lagAt 0 (r 4) (r 5) (r 0)), z) := by rw [s_X3_lag, if_pos c_1]
    exact k_iret S G hr hlk dX3_lag_34 (by first | (rw [es]; done) | (rw [es]; rfl) | (simp only [es]; done) | (simp only [es]; rfl)) (by first | (rw [es]; done) | (rw [es]; rfl) | (simp only [es]; done) | (simp only [es]; rfl))
  · skip
    by_cases c_3 : tn = 1
    · skip
      have hl : lv_has ls 2 [(0, .ref x), (1, .int 1)] := by rw [← c_3]; exact hl
      refine lv_iload_n hx hb dX3_lag_0 rfl (lv_at hl 1 rfl) ?_
      refine k_callS (n := 1) (As := [.int 1]) (rest := []) (st1 := [.int 1]) (ws1 := ((x, .inr (3, [.ref (a 0), .ref sv, .ref tl, .ref er, .int sc])) :: (er, .inl (cI, 3, .inl z)) :: stW cI a r e ([]))) S G (c_X3_isTrain l D cI cS 1) gX3_lag_X3_isTrain rfl (by decide +kernel) ⟨⟨rfl, rfl⟩, Nat.le_of_ble_eq_true rfl, Nat.le_of_ble_eq_true rfl⟩ [] (by decide) rfl [] rfl rfl rfl hl.1 rfl (Nat.le_of_ble_eq_true rfl) ⟨Nat.zero_le _, Nat.zero_le _⟩ dX3_lag_1 (congrArg (fun z => Value.int z :: []) (by decide : (s_X3_isTrain 1) = 1)) rfl (fun H locs G => ?_)
      refine lv_if_eq (tgt := 28) hx hb dX3_lag_4 (by decide) (fun c_4 => absurd c_4 (by decide)) (fun c_4 => ?_)
      refine lv_aload_n hx hb dX3_lag_7 rfl (lv_at hl 0 rfl) ?_
      refine k_get (v := .ref (a 0)) S G 0 rfl rfl hiX3 0 (by decide) hf10 rfl dX3_lag_8 ?_
      refine lv_iload_n hx hb dX3_lag_11 rfl (lv_at hl 1 rfl) ?_
      refine k_callV (n := 1) (As := [.int 1]) (rest := []) (st1 := [.ref (a 2)]) (ws1 := ((x, .inr (3, [.ref (a 0), .ref sv, .ref tl, .ref er, .int sc])) :: (er, .inl (cI, 3, .inl z)) :: stW cI a r e ([]))) S G (c_X0_trainOf_1 l D cI cS a r e) gX3_lag_X0_trainOf rfl (by decide +kernel) ⟨⟨rfl, rfl⟩, Nat.le_of_ble_eq_true rfl, Nat.le_of_ble_eq_true rfl⟩ [2, 3, 4, 5, 6, 7, 8] (by decide) rfl [(a 0), (a 1), (a 2), (a 3), (a 4), (a 5), (a 6)] rfl rfl 2 rfl rfl rfl hl.1 rfl (Nat.le_of_ble_eq_true rfl) ⟨Nat.zero_le _, Nat.zero_le _⟩ dX3_lag_12 rfl rfl (fun H locs G => ?_)
      refine lv_aload_n hx hb dX3_lag_15 rfl (lv_at hl 0 rfl) ?_
      refine k_get (v := .ref (a 0)) S G 0 rfl rfl hiX3 0 (by decide) hf10 rfl dX3_lag_16 ?_
      refine k_get (v := .int (r 0)) S G 2 rfl rfl hiX0 3 (by decide) hf83 rfl dX3_lag_19 ?_
      refine k_callV (n := 1) (As := [.int (r 0)]) (rest := []) (st1 := [.int (s_X2_lagAt 1 (r 9) (r 10) (r 0))]) (ws1 := ((x, .inr (3, [.ref (a 0), .ref sv, .ref tl, .ref er, .int sc])) :: (er, .inl (cI, 3, .inl z)) :: stW cI a r e ([]))) S G (c_X2_lagAt l D cI cS (a 2) 1 (r 9) (r 10) (r 11) (r 12) (r 13) (r 0)) gX3_lag_X2_lagAt rfl (by decide +kernel) ⟨⟨rfl, rfl⟩, Nat.le_of_ble_eq_true rfl, Nat.le_of_ble_eq_true rfl⟩ [4] (by decide) rfl [(a 2)] rfl rfl 4 rfl rfl rfl hl.1 rfl (Nat.le_of_ble_eq_true rfl) ⟨Nat.zero_le _, Nat.zero_le _⟩ dX3_lag_22 rfl rfl (fun H locs G => ?_)
      refine lv_goto (tgt := 34) hx hb dX3_lag_25 (by decide) ?_
      have es : (s_X3_lag z r tn) = ((s_X2_lagAt 1 (r 9) (r 10) (r 0)), z) := by rw [s_X3_lag, if_neg c_1, if_pos c_3]
      exact k_iret S G hr hlk dX3_lag_34 (by first | (rw [es]; done) | (rw [es]; rfl) | (simp only [es]; done) | (simp only [es]; rfl)) (by first | (rw [es]; done) | (rw [es]; rfl) | (simp only [es]; done) | (simp only [es]; rfl))
    · skip
      refine lv_iload_n hx hb dX3_lag_0 rfl (lv_at hl 1 rfl) ?_
      refine k_callS (n := 1) (As := [.int tn]) (rest := []) (st1 := [.int 0]) (ws1 := ((x, .inr (3, [.ref (a 0), .ref sv, .ref tl, .ref er, .int sc])) :: (er, .inl (cI, 3, .inl z)) :: stW cI a r e ([]))) S G (c_X3_isTrain l D cI cS tn) gX3_lag_X3_isTrain rfl (by decide +kernel) ⟨⟨rfl, rfl⟩, Nat.le_of_ble_eq_true rfl, Nat.le_of_ble_eq_true rfl⟩ [] (by decide) rfl [] rfl rfl rfl hl.1 rfl (Nat.le_of_ble_eq_true rfl) ⟨Nat.zero_le _, Nat.zero_le _⟩ dX3_lag_1 (congrArg (fun z => Value.int z :: []) (by rw [s_X3_isTrain, if_neg c_1, if_neg c_3])) rfl (fun H locs G => ?_)
      refine lv_if_eq (tgt := 28) hx hb dX3_lag_4 (by decide) (fun c_5 => ?_) (fun c_5 => absurd c_5 (by decide))
      refine lv_aload_n hx hb dX3_lag_28 rfl (lv_at hl 0 rfl) ?_
      refine lv_bipush (v := (-2)) hx hb dX3_lag_29 (by decide) ?_
      refine k_callV (n := 1) (As := [.int (-2)]) (rest := []) (st1 := [.int (-2)]) (ws1 := ((x, .inr (3, [.ref (a 0), .ref sv, .ref tl, .ref er, .int sc])) :: (er, .inl (cI, 3, .inl (upd z 0 ((z 0) + 1)))) :: stW cI a r e ([]))) S G (c_X3_refuse_2 l D cI cS (a 0) x sv tl er sc z) gX3_lag_X3_refuse rfl (by decide +kernel) ⟨⟨rfl, rfl⟩, Nat.le_of_ble_eq_true rfl, Nat.le_of_ble_eq_true rfl⟩ [0, 1] (by decide) rfl [x, er] rfl rfl 0 rfl rfl rfl hl.1 rfl (Nat.le_of_ble_eq_true rfl) ⟨Nat.zero_le _, Nat.zero_le _⟩ dX3_lag_31 rfl rfl (fun H locs G => ?_)
      have es : (s_X3_lag z r tn) = ((-2), (upd z 0 ((z 0) + 1))) := by rw [s_X3_lag, if_neg c_1, if_neg c_3]
      exact k_iret S G hr hlk dX3_lag_34 (by first | (rw [es]; done) | (rw [es]; rfl) | (simp only [es]; done) | (simp only [es]; rfl)) (by first | (rw [es]; done) | (rw [es]; rfl) | (simp only [es]; done) | (simp only [es]; rfl))
def s_X3_handsToCorrect (z : Nat → Int32) (r : Nat → Int32) (tn : Int32) : Int32 × (Nat → Int32) := (if tn = 0 then (if (s_X2_lagAt 0 (r 4) (r 5) (r 0)) = 0 then ((r 0), z) else ((irem ((s_X2_lastReleaseUpTo 0 (r 0)) + (((s_X2_lastPosition 0) - (s_X2_lagAt 0 (r 4) (r 5) (r 0))) * (s_X2_period 0))) 1440), z)) else (if tn = 1 then (if (s_X2_lagAt 1 (r 9) (r 10) (r 0)) = 0 then ((r 0), z) else ((irem ((s_X2_lastReleaseUpTo 1 (r 0)) + (((s_X2_lastPosition 1) - (s_X2_lagAt 1 (r 9) (r 10) (r 0))) * (s_X2_period 1))) 1440), z)) else ((-2), (upd z 0 ((z 0) + 1)))))
set_option maxHeartbeats 4000000 in
set_option maxRecDepth 100000 in
theorem c_X3_handsToCorrect (l : Launch) (D : va_G) (cI cS : ClassId) (x : Nat) (sv : Nat) (tl : Nat) (er : Nat) (sc : Int32) (z : Nat → Int32) (a : Nat → Nat) (r : Nat → Int32) (e : Nat → Nat → Int32) (tn : Int32) : Ct l yX3_handsToCorrect wsX3_handsToCorrect ({ frames := 4, cells := 0, slots := 0, locals := 85 }) D (tyL cI cS) [.ref x, .int tn] ((x, .inr (3, [.ref (a 0), .ref sv, .ref tl, .ref er, .int sc])) :: (er, .inl (cI, 3, .inl z)) :: stW cI a r e ([])) (some (.int ((s_X3_handsToCorrect z r tn).1))) ((x, .inr (3, [.ref (a 0), .ref sv, .ref tl, .ref er, .int sc])) :: (er, .inl (cI, 3, .inl ((s_X3_handsToCorrect z r tn).2))) :: stW cI a r e ([])) := by
  refine Ct.of (cc := cX3_handsToCorrect) (maxL := 5) (ret := (some .int)) (by decide) rfl (Nat.le_of_ble_eq_true rfl) ?_
  intro p ev s m args below meth c A ls S hr hlk G hl
  have hx := S.1
  have hb := S.2.1
  have hown : s.vm.findClass RX3 = some m.cls := S.2.2.2.1
  have hts := S.2.2.2.2
  have hl : lv_has ls 5 [(0, .ref x), (1, .int tn)] := hl
  have hiX0 : ∀ w ∈ wsX00, w ∈ wsX3_handsToCorrect := by decide +kernel
  have hiX3 : ∀ w ∈ wsX30, w ∈ wsX3_handsToCorrect := by decide +kernel
  have hf10 := hts (.fieldLink RX3 10 "StrikingWork" "now" "LStrikingWork$State;") (by decide +kernel)
  have hf83 := hts (.fieldLink RX3 83 "StrikingWork$State" "minute" "I") (by decide +kernel)
  by_cases c_1 : tn = 0
  · skip
    have hl : lv_has ls 5 [(0, .ref x), (1, .int 0)] := by rw [← c_1]; exact hl
    refine lv_iload_n hx hb dX3_handsToCorrect_0 rfl (lv_at hl 1 rfl) ?_
    refine k_callS (n := 1) (As := [.int 0]) (rest := []) (st1 := [.int 1]) (ws1 := ((x, .inr (3, [.ref (a 0), .ref sv, .ref tl, .ref er, .int sc])) :: (er, .inl (cI, 3, .inl z)) :: stW cI a r e ([]))) S G (c_X3_isTrain l D cI cS 0) gX3_handsToCorrect_X3_isTrain rfl (by decide +kernel) ⟨⟨rfl, rfl⟩, Nat.le_of_ble_eq_true rfl, Nat.le_of_ble_eq_true rfl⟩ [] (by decide) rfl [] rfl rfl rfl hl.1 rfl (Nat.le_of_ble_eq_true rfl) ⟨Nat.zero_le _, Nat.zero_le _⟩ dX3_handsToCorrect_1 (congrArg (fun z => Value.int z :: []) (by decide : (s_X3_isTrain 0) = 1)) rfl (fun H locs G => ?_)
    refine lv_if_ne (tgt := 14) hx hb dX3_handsToCorrect_4 (by decide) (fun c_2 => ?_) (fun c_2 => absurd c_2 (by decide))
    refine lv_aload_n hx hb dX3_handsToCorrect_14 rfl (lv_at hl 0 rfl) ?_
    refine k_get (v := .ref (a 0)) S G 0 rfl rfl hiX3 0 (by decide) hf10 rfl dX3_handsToCorrect_15 ?_
    refine lv_iload_n hx hb dX3_handsToCorrect_18 rfl (lv_at hl 1 rfl) ?_
    refine k_callV (n := 1) (As := [.int 0]) (rest := []) (st1 := [.ref (a 1)]) (ws1 := ((x, .inr (3, [.ref (a 0), .ref sv, .ref tl, .ref er, .int sc])) :: (er, .inl (cI, 3, .inl z)) :: stW cI a r e ([]))) S G (c_X0_trainOf_0 l D cI cS a r e) gX3_handsToCorrect_X0_trainOf rfl (by decide +kernel) ⟨⟨rfl, rfl⟩, Nat.le_of_ble_eq_true rfl, Nat.le_of_ble_eq_true rfl⟩ [2, 3, 4, 5, 6, 7, 8] (by decide) rfl [(a 0), (a 1), (a 2), (a 3), (a 4), (a 5), (a 6)] rfl rfl 2 rfl rfl rfl hl.1 rfl (Nat.le_of_ble_eq_true rfl) ⟨Nat.zero_le _, Nat.zero_le _⟩ dX3_handsToCorrect_19 rfl rfl (fun H locs G => ?_)
    refine lv_astore_n (lv' := [(2, .ref (a 1)), (0, .ref x), (1, .int 0)]) hx hb dX3_handsToCorrect_22 rfl hl (by decide) rfl (fun ls hl => ?_)
    refine lv_aload_n hx hb dX3_handsToCorrect_23 rfl (lv_at hl 0 rfl) ?_
    refine lv_aload_n hx hb dX3_handsToCorrect_24 rfl (lv_at hl 1 rfl) ?_
    refine k_get (v := .ref (a 0)) S G 0 rfl rfl hiX3 0 (by decide) hf10 rfl dX3_handsToCorrect_25 ?_
    refine k_get (v := .int (r 0)) S G 2 rfl rfl hiX0 3 (by decide) hf83 rfl dX3_handsToCorrect_28 ?_
    refine k_callV (n := 1) (As := [.int (r 0)]) (rest := []) (st1 := [.int (s_X2_lagAt 0 (r 4) (r 5) (r 0))]) (ws1 := ((x, .inr (3, [.ref (a 0), .ref sv, .ref tl, .ref er, .int sc])) :: (er, .inl (cI, 3, .inl z)) :: stW cI a r e ([]))) S G (c_X2_lagAt l D cI cS (a 1) 0 (r 4) (r 5) (r 6) (r 7) (r 8) (r 0)) gX3_handsToCorrect_X2_lagAt rfl (by decide +kernel) ⟨⟨rfl, rfl⟩, Nat.le_of_ble_eq_true rfl, Nat.le_of_ble_eq_true rfl⟩ [3] (by decide) rfl [(a 1)] rfl rfl 3 rfl rfl rfl hl.1 rfl (Nat.le_of_ble_eq_true rfl) ⟨Nat.zero_le _, Nat.zero_le _⟩ dX3_handsToCorrect_31 rfl rfl (fun H locs G => ?_)
    refine lv_istore_n (lv' := [(3, .int (s_X2_lagAt 0 (r 4) (r 5) (r 0))), (2, .ref (a 1)), (0, .ref x), (1, .int 0)]) hx hb dX3_handsToCorrect_34 rfl hl (by decide) rfl (fun ls hl => ?_)
    refine lv_iload_n hx hb dX3_handsToCorrect_35 rfl (lv_at hl 0 rfl) ?_
    refine lv_if_ne (tgt := 47) hx hb dX3_handsToCorrect_36 (by decide) (fun c_3 => ?_) (fun c_3 => ?_)
    · skip
      refine lv_aload_n hx hb dX3_handsToCorrect_47 rfl (lv_at hl 1 rfl) ?_
      refine k_callV (n := 0) (As := []) (rest := []) (st1 := [.int (s_X2_lastPosition 0)]) (ws1 := ((x, .inr (3, [.ref (a 0), .ref sv, .ref tl, .ref er, .int sc])) :: (er, .inl (cI, 3, .inl z)) :: stW cI a r e ([]))) S G (c_X2_lastPosition l D cI cS (a 1) 0 (r 4) (r 5) (r 6) (r 7) (r 8)) gX3_handsToCorrect_X2_lastPosition rfl (by decide +kernel) ⟨⟨rfl, rfl⟩, Nat.le_of_ble_eq_true rfl, Nat.le_of_ble_eq_true rfl⟩ [3] (by decide) rfl [(a 1)] rfl rfl 3 rfl rfl rfl hl.1 rfl (Nat.le_of_ble_eq_true rfl) ⟨Nat.zero_le _, Nat.zero_le _⟩ dX3_handsToCorrect_48 rfl rfl (fun H locs G => ?_)
      refine lv_iload_n hx hb dX3_handsToCorrect_51 rfl (lv_at hl 0 rfl) ?_
      refine lv_isub hx hb dX3_handsToCorrect_52 ?_
      refine lv_istore (lv' := [(4, .int ((s_X2_lastPosition 0) - (s_X2_lagAt 0 (r 4) (r 5) (r 0)))), (3, .int (s_X2_lagAt 0 (r 4) (r 5) (r 0))), (2, .ref (a 1)), (0, .ref x), (1, .int 0)]) hx hb dX3_handsToCorrect_53 hl (by decide) rfl (fun ls hl => ?_)
      refine lv_aload_n hx hb dX3_handsToCorrect_55 rfl (lv_at hl 2 rfl) ?_
      refine lv_aload_n hx hb dX3_handsToCorrect_56 rfl (lv_at hl 3 rfl) ?_
      refine k_get (v := .ref (a 0)) S G 0 rfl rfl hiX3 0 (by decide) hf10 rfl dX3_handsToCorrect_57 ?_
      refine k_get (v := .int (r 0)) S G 2 rfl rfl hiX0 3 (by decide) hf83 rfl dX3_handsToCorrect_60 ?_
      refine k_callV (n := 1) (As := [.int (r 0)]) (rest := []) (st1 := [.int (s_X2_lastReleaseUpTo 0 (r 0))]) (ws1 := ((x, .inr (3, [.ref (a 0), .ref sv, .ref tl, .ref er, .int sc])) :: (er, .inl (cI, 3, .inl z)) :: stW cI a r e ([]))) S G (c_X2_lastReleaseUpTo l D cI cS (a 1) 0 (r 4) (r 5) (r 6) (r 7) (r 8) (r 0)) gX3_handsToCorrect_X2_lastReleaseUpTo rfl (by decide +kernel) ⟨⟨rfl, rfl⟩, Nat.le_of_ble_eq_true rfl, Nat.le_of_ble_eq_true rfl⟩ [3] (by decide) rfl [(a 1)] rfl rfl 3 rfl rfl rfl hl.1 rfl (Nat.le_of_ble_eq_true rfl) ⟨Nat.zero_le _, Nat.zero_le _⟩ dX3_handsToCorrect_63 rfl rfl (fun H locs G => ?_)
      refine lv_iload hx hb dX3_handsToCorrect_66 (lv_at hl 0 rfl) ?_
      refine lv_aload_n hx hb dX3_handsToCorrect_68 rfl (lv_at hl 2 rfl) ?_
      refine k_callV (n := 0) (As := []) (rest := [.int ((s_X2_lastPosition 0) - (s_X2_lagAt 0 (r 4) (r 5) (r 0))), .int (s_X2_lastReleaseUpTo 0 (r 0))]) (st1 := [.int (s_X2_period 0), .int ((s_X2_lastPosition 0) - (s_X2_lagAt 0 (r 4) (r 5) (r 0))), .int (s_X2_lastReleaseUpTo 0 (r 0))]) (ws1 := ((x, .inr (3, [.ref (a 0), .ref sv, .ref tl, .ref er, .int sc])) :: (er, .inl (cI, 3, .inl z)) :: stW cI a r e ([]))) S G (c_X2_period l D cI cS (a 1) 0 (r 4) (r 5) (r 6) (r 7) (r 8)) gX3_handsToCorrect_X2_period rfl (by decide +kernel) ⟨⟨rfl, rfl⟩, Nat.le_of_ble_eq_true rfl, Nat.le_of_ble_eq_true rfl⟩ [3] (by decide) rfl [(a 1)] rfl rfl 3 rfl rfl rfl hl.1 rfl (Nat.le_of_ble_eq_true rfl) ⟨Nat.zero_le _, Nat.zero_le _⟩ dX3_handsToCorrect_69 rfl rfl (fun H locs G => ?_)
      refine lv_imul hx hb dX3_handsToCorrect_72 ?_
      refine lv_iadd hx hb dX3_handsToCorrect_73 ?_
      refine lv_sipush (v := 1440) hx hb dX3_handsToCorrect_74 (by decide) ?_
      refine lv_irem hx hb dX3_handsToCorrect_77 (by decide) ?_
      refine lv_lit (v := (irem ((s_X2_lastReleaseUpTo 0 (r 0)) + (((s_X2_lastPosition 0) - (s_X2_lagAt 0 (r 4) (r 5) (r 0))) * (s_X2_period 0))) 1440)) rfl ?_
      have es : (s_X3_handsToCorrect z r tn) = ((irem ((s_X2_lastReleaseUpTo 0 (r 0)) + (((s_X2_lastPosition 0) - (s_X2_lagAt 0 (r 4) (r 5) (r 0))) * (s_X2_period 0))) 1440), z) := by rw [s_X3_handsToCorrect, if_pos c_1, if_neg c_3]
      exact k_iret S G hr hlk dX3_handsToCorrect_78 (by first | (rw [es]; done) | (rw [es]; rfl) | (simp only [es]; done) | (simp only [es]; rfl)) (by first | (rw [es]; done) | (rw [es]; rfl) | (simp only [es]; done) | (simp only [es]; rfl))
    · skip
      refine lv_aload_n hx hb dX3_handsToCorrect_39 rfl (lv_at hl 2 rfl) ?_
      refine k_get (v := .ref (a 0)) S G 0 rfl rfl hiX3 0 (by decide) hf10 rfl dX3_handsToCorrect_40 ?_
      refine k_get (v := .int (r 0)) S G 2 rfl rfl hiX0 3 (by decide) hf83 rfl dX3_handsToCorrect_43 ?_
      have es : (s_X3_handsToCorrect z r tn) = ((r 0), z) := by rw [s_X3_handsToCorrect, if_pos c_1, if_pos c_3]
      exact k_iret S G hr hlk dX3_handsToCorrect_46 (by first | (rw [es]; done) | (rw [es]; rfl) | (simp only [es]; done) | (simp only [es]; rfl)) (by first | (rw [es]; done) | (rw [es]; rfl) | (simp only [es]; done) | (simp only [es]; rfl))
  · skip
    by_cases c_4 : tn = 1
    · skip
      have hl : lv_has ls 5 [(0, .ref x), (1, .int 1)] := by rw [← c_4]; exact hl
      refine lv_iload_n hx hb dX3_handsToCorrect_0 rfl (lv_at hl 1 rfl) ?_
      refine k_callS (n := 1) (As := [.int 1]) (rest := []) (st1 := [.int 1]) (ws1 := ((x, .inr (3, [.ref (a 0), .ref sv, .ref tl, .ref er, .int sc])) :: (er, .inl (cI, 3, .inl z)) :: stW cI a r e ([]))) S G (c_X3_isTrain l D cI cS 1) gX3_handsToCorrect_X3_isTrain rfl (by decide +kernel) ⟨⟨rfl, rfl⟩, Nat.le_of_ble_eq_true rfl, Nat.le_of_ble_eq_true rfl⟩ [] (by decide) rfl [] rfl rfl rfl hl.1 rfl (Nat.le_of_ble_eq_true rfl) ⟨Nat.zero_le _, Nat.zero_le _⟩ dX3_handsToCorrect_1 (congrArg (fun z => Value.int z :: []) (by decide : (s_X3_isTrain 1) = 1)) rfl (fun H locs G => ?_)
      refine lv_if_ne (tgt := 14) hx hb dX3_handsToCorrect_4 (by decide) (fun c_5 => ?_) (fun c_5 => absurd c_5 (by decide))
      refine lv_aload_n hx hb dX3_handsToCorrect_14 rfl (lv_at hl 0 rfl) ?_
      refine k_get (v := .ref (a 0)) S G 0 rfl rfl hiX3 0 (by decide) hf10 rfl dX3_handsToCorrect_15 ?_
      refine lv_iload_n hx hb dX3_handsToCorrect_18 rfl (lv_at hl 1 rfl) ?_
      refine k_callV (n := 1) (As := [.int 1]) (rest := []) (st1 := [.ref (a 2)]) (ws1 := ((x, .inr (3, [.ref (a 0), .ref sv, .ref tl, .ref er, .int sc])) :: (er, .inl (cI, 3, .inl z)) :: stW cI a r e ([]))) S G (c_X0_trainOf_1 l D cI cS a r e) gX3_handsToCorrect_X0_trainOf rfl (by decide +kernel) ⟨⟨rfl, rfl⟩, Nat.le_of_ble_eq_true rfl, Nat.le_of_ble_eq_true rfl⟩ [2, 3, 4, 5, 6, 7, 8] (by decide) rfl [(a 0), (a 1), (a 2), (a 3), (a 4), (a 5), (a 6)] rfl rfl 2 rfl rfl rfl hl.1 rfl (Nat.le_of_ble_eq_true rfl) ⟨Nat.zero_le _, Nat.zero_le _⟩ dX3_handsToCorrect_19 rfl rfl (fun H locs G => ?_)
      refine lv_astore_n (lv' := [(2, .ref (a 2)), (0, .ref x), (1, .int 1)]) hx hb dX3_handsToCorrect_22 rfl hl (by decide) rfl (fun ls hl => ?_)
      refine lv_aload_n hx hb dX3_handsToCorrect_23 rfl (lv_at hl 0 rfl) ?_
      refine lv_aload_n hx hb dX3_handsToCorrect_24 rfl (lv_at hl 1 rfl) ?_
      refine k_get (v := .ref (a 0)) S G 0 rfl rfl hiX3 0 (by decide) hf10 rfl dX3_handsToCorrect_25 ?_
      refine k_get (v := .int (r 0)) S G 2 rfl rfl hiX0 3 (by decide) hf83 rfl dX3_handsToCorrect_28 ?_
      refine k_callV (n := 1) (As := [.int (r 0)]) (rest := []) (st1 := [.int (s_X2_lagAt 1 (r 9) (r 10) (r 0))]) (ws1 := ((x, .inr (3, [.ref (a 0), .ref sv, .ref tl, .ref er, .int sc])) :: (er, .inl (cI, 3, .inl z)) :: stW cI a r e ([]))) S G (c_X2_lagAt l D cI cS (a 2) 1 (r 9) (r 10) (r 11) (r 12) (r 13) (r 0)) gX3_handsToCorrect_X2_lagAt rfl (by decide +kernel) ⟨⟨rfl, rfl⟩, Nat.le_of_ble_eq_true rfl, Nat.le_of_ble_eq_true rfl⟩ [4] (by decide) rfl [(a 2)] rfl rfl 4 rfl rfl rfl hl.1 rfl (Nat.le_of_ble_eq_true rfl) ⟨Nat.zero_le _, Nat.zero_le _⟩ dX3_handsToCorrect_31 rfl rfl (fun H locs G => ?_)
      refine lv_istore_n (lv' := [(3, .int (s_X2_lagAt 1 (r 9) (r 10) (r 0))), (2, .ref (a 2)), (0, .ref x), (1, .int 1)]) hx hb dX3_handsToCorrect_34 rfl hl (by decide) rfl (fun ls hl => ?_)
      refine lv_iload_n hx hb dX3_handsToCorrect_35 rfl (lv_at hl 0 rfl) ?_
      refine lv_if_ne (tgt := 47) hx hb dX3_handsToCorrect_36 (by decide) (fun c_6 => ?_) (fun c_6 => ?_)
      · skip
        refine lv_aload_n hx hb dX3_handsToCorrect_47 rfl (lv_at hl 1 rfl) ?_
        refine k_callV (n := 0) (As := []) (rest := []) (st1 := [.int (s_X2_lastPosition 1)]) (ws1 := ((x, .inr (3, [.ref (a 0), .ref sv, .ref tl, .ref er, .int sc])) :: (er, .inl (cI, 3, .inl z)) :: stW cI a r e ([]))) S G (c_X2_lastPosition l D cI cS (a 2) 1 (r 9) (r 10) (r 11) (r 12) (r 13)) gX3_handsToCorrect_X2_lastPosition rfl (by decide +kernel) ⟨⟨rfl, rfl⟩, Nat.le_of_ble_eq_true rfl, Nat.le_of_ble_eq_true rfl⟩ [4] (by decide) rfl [(a 2)] rfl rfl 4 rfl rfl rfl hl.1 rfl (Nat.le_of_ble_eq_true rfl) ⟨Nat.zero_le _, Nat.zero_le _⟩ dX3_handsToCorrect_48 rfl rfl (fun H locs G => ?_)
        refine lv_iload_n hx hb dX3_handsToCorrect_51 rfl (lv_at hl 0 rfl) ?_
        refine lv_isub hx hb dX3_handsToCorrect_52 ?_
        refine lv_istore (lv' := [(4, .int ((s_X2_lastPosition 1) - (s_X2_lagAt 1 (r 9) (r 10) (r 0)))), (3, .int (s_X2_lagAt 1 (r 9) (r 10) (r 0))), (2, .ref (a 2)), (0, .ref x), (1, .int 1)]) hx hb dX3_handsToCorrect_53 hl (by decide) rfl (fun ls hl => ?_)
        refine lv_aload_n hx hb dX3_handsToCorrect_55 rfl (lv_at hl 2 rfl) ?_
        refine lv_aload_n hx hb dX3_handsToCorrect_56 rfl (lv_at hl 3 rfl) ?_
        refine k_get (v := .ref (a 0)) S G 0 rfl rfl hiX3 0 (by decide) hf10 rfl dX3_handsToCorrect_57 ?_
        refine k_get (v := .int (r 0)) S G 2 rfl rfl hiX0 3 (by decide) hf83 rfl dX3_handsToCorrect_60 ?_
        refine k_callV (n := 1) (As := [.int (r 0)]) (rest := []) (st1 := [.int (s_X2_lastReleaseUpTo 1 (r 0))]) (ws1 := ((x, .inr (3, [.ref (a 0), .ref sv, .ref tl, .ref er, .int sc])) :: (er, .inl (cI, 3, .inl z)) :: stW cI a r e ([]))) S G (c_X2_lastReleaseUpTo l D cI cS (a 2) 1 (r 9) (r 10) (r 11) (r 12) (r 13) (r 0)) gX3_handsToCorrect_X2_lastReleaseUpTo rfl (by decide +kernel) ⟨⟨rfl, rfl⟩, Nat.le_of_ble_eq_true rfl, Nat.le_of_ble_eq_true rfl⟩ [4] (by decide) rfl [(a 2)] rfl rfl 4 rfl rfl rfl hl.1 rfl (Nat.le_of_ble_eq_true rfl) ⟨Nat.zero_le _, Nat.zero_le _⟩ dX3_handsToCorrect_63 rfl rfl (fun H locs G => ?_)
        refine lv_iload hx hb dX3_handsToCorrect_66 (lv_at hl 0 rfl) ?_
        refine lv_aload_n hx hb dX3_handsToCorrect_68 rfl (lv_at hl 2 rfl) ?_
        refine k_callV (n := 0) (As := []) (rest := [.int ((s_X2_lastPosition 1) - (s_X2_lagAt 1 (r 9) (r 10) (r 0))), .int (s_X2_lastReleaseUpTo 1 (r 0))]) (st1 := [.int (s_X2_period 1), .int ((s_X2_lastPosition 1) - (s_X2_lagAt 1 (r 9) (r 10) (r 0))), .int (s_X2_lastReleaseUpTo 1 (r 0))]) (ws1 := ((x, .inr (3, [.ref (a 0), .ref sv, .ref tl, .ref er, .int sc])) :: (er, .inl (cI, 3, .inl z)) :: stW cI a r e ([]))) S G (c_X2_period l D cI cS (a 2) 1 (r 9) (r 10) (r 11) (r 12) (r 13)) gX3_handsToCorrect_X2_period rfl (by decide +kernel) ⟨⟨rfl, rfl⟩, Nat.le_of_ble_eq_true rfl, Nat.le_of_ble_eq_true rfl⟩ [4] (by decide) rfl [(a 2)] rfl rfl 4 rfl rfl rfl hl.1 rfl (Nat.le_of_ble_eq_true rfl) ⟨Nat.zero_le _, Nat.zero_le _⟩ dX3_handsToCorrect_69 rfl rfl (fun H locs G => ?_)
        refine lv_imul hx hb dX3_handsToCorrect_72 ?_
        refine lv_iadd hx hb dX3_handsToCorrect_73 ?_
        refine lv_sipush (v := 1440) hx hb dX3_handsToCorrect_74 (by decide) ?_
        refine lv_irem hx hb dX3_handsToCorrect_77 (by decide) ?_
        refine lv_lit (v := (irem ((s_X2_lastReleaseUpTo 1 (r 0)) + (((s_X2_lastPosition 1) - (s_X2_lagAt 1 (r 9) (r 10) (r 0))) * (s_X2_period 1))) 1440)) rfl ?_
        have es : (s_X3_handsToCorrect z r tn) = ((irem ((s_X2_lastReleaseUpTo 1 (r 0)) + (((s_X2_lastPosition 1) - (s_X2_lagAt 1 (r 9) (r 10) (r 0))) * (s_X2_period 1))) 1440), z) := by rw [s_X3_handsToCorrect, if_neg c_1, if_pos c_4, if_neg c_6]
        exact k_iret S G hr hlk dX3_handsToCorrect_78 (by first | (rw [es]; done) | (rw [es]; rfl) | (simp only [es]; done) | (simp only [es]; rfl)) (by first | (rw [es]; done) | (rw [es]; rfl) | (simp only [es]; done) | (simp only [es]; rfl))
      · skip
        refine lv_aload_n hx hb dX3_handsToCorrect_39 rfl (lv_at hl 2 rfl) ?_
        refine k_get (v := .ref (a 0)) S G 0 rfl rfl hiX3 0 (by decide) hf10 rfl dX3_handsToCorrect_40 ?_
        refine k_get (v := .int (r 0)) S G 2 rfl rfl hiX0 3 (by decide) hf83 rfl dX3_handsToCorrect_43 ?_
        have es : (s_X3_handsToCorrect z r tn) = ((r 0), z) := by rw [s_X3_handsToCorrect, if_neg c_1, if_pos c_4, if_pos c_6]
        exact k_iret S G hr hlk dX3_handsToCorrect_46 (by first | (rw [es]; done) | (rw [es]; rfl) | (simp only [es]; done) | (simp only [es]; rfl)) (by first | (rw [es]; done) | (rw [es]; rfl) | (simp only [es]; done) | (simp only [es]; rfl))
    · skip
      refine lv_iload_n hx hb dX3_handsToCorrect_0 rfl (lv_at hl 1 rfl) ?_
      refine k_callS (n := 1) (As := [.int tn]) (rest := []) (st1 := [.int 0]) (ws1 := ((x, .inr (3, [.ref (a 0), .ref sv, .ref tl, .ref er, .int sc])) :: (er, .inl (cI, 3, .inl z)) :: stW cI a r e ([]))) S G (c_X3_isTrain l D cI cS tn) gX3_handsToCorrect_X3_isTrain rfl (by decide +kernel) ⟨⟨rfl, rfl⟩, Nat.le_of_ble_eq_true rfl, Nat.le_of_ble_eq_true rfl⟩ [] (by decide) rfl [] rfl rfl rfl hl.1 rfl (Nat.le_of_ble_eq_true rfl) ⟨Nat.zero_le _, Nat.zero_le _⟩ dX3_handsToCorrect_1 (congrArg (fun z => Value.int z :: []) (by rw [s_X3_isTrain, if_neg c_1, if_neg c_4])) rfl (fun H locs G => ?_)
      refine lv_if_ne (tgt := 14) hx hb dX3_handsToCorrect_4 (by decide) (fun c_7 => absurd c_7 (by decide)) (fun c_7 => ?_)
      refine lv_aload_n hx hb dX3_handsToCorrect_7 rfl (lv_at hl 0 rfl) ?_
      refine lv_bipush (v := (-2)) hx hb dX3_handsToCorrect_8 (by decide) ?_
      refine k_callV (n := 1) (As := [.int (-2)]) (rest := []) (st1 := [.int (-2)]) (ws1 := ((x, .inr (3, [.ref (a 0), .ref sv, .ref tl, .ref er, .int sc])) :: (er, .inl (cI, 3, .inl (upd z 0 ((z 0) + 1)))) :: stW cI a r e ([]))) S G (c_X3_refuse_2 l D cI cS (a 0) x sv tl er sc z) gX3_handsToCorrect_X3_refuse rfl (by decide +kernel) ⟨⟨rfl, rfl⟩, Nat.le_of_ble_eq_true rfl, Nat.le_of_ble_eq_true rfl⟩ [0, 1] (by decide) rfl [x, er] rfl rfl 0 rfl rfl rfl hl.1 rfl (Nat.le_of_ble_eq_true rfl) ⟨Nat.zero_le _, Nat.zero_le _⟩ dX3_handsToCorrect_10 rfl rfl (fun H locs G => ?_)
      have es : (s_X3_handsToCorrect z r tn) = ((-2), (upd z 0 ((z 0) + 1))) := by rw [s_X3_handsToCorrect, if_neg c_1, if_neg c_4]
      exact k_iret S G hr hlk dX3_handsToCorrect_13 (by first | (rw [es]; done) | (rw [es]; rfl) | (simp only [es]; done) | (simp only [es]; rfl)) (by first | (rw [es]; done) | (rw [es]; rfl) | (simp only [es]; done) | (simp only [es]; rfl))
def s_X3_position (z : Nat → Int32) (r : Nat → Int32) (tn : Int32) : Int32 × (Nat → Int32) := (if tn = 0 then ((r 5), z) else (if tn = 1 then ((r 10), z) else ((-2), (upd z 0 ((z 0) + 1)))))
set_option maxHeartbeats 4000000 in
set_option maxRecDepth 100000 in
theorem c_X3_position (l : Launch) (D : va_G) (cI cS : ClassId) (x : Nat) (sv : Nat) (tl : Nat) (er : Nat) (sc : Int32) (z : Nat → Int32) (a : Nat → Nat) (r : Nat → Int32) (e : Nat → Nat → Int32) (tn : Int32) : Ct l yX3_position wsX3_position ({ frames := 2, cells := 0, slots := 0, locals := 41 }) D (tyL cI cS) [.ref x, .int tn] ((x, .inr (3, [.ref (a 0), .ref sv, .ref tl, .ref er, .int sc])) :: (er, .inl (cI, 3, .inl z)) :: stW cI a r e ([])) (some (.int ((s_X3_position z r tn).1))) ((x, .inr (3, [.ref (a 0), .ref sv, .ref tl, .ref er, .int sc])) :: (er, .inl (cI, 3, .inl ((s_X3_position z r tn).2))) :: stW cI a r e ([])) := by
  refine Ct.of (cc := cX3_position) (maxL := 2) (ret := (some .int)) (by decide) rfl (Nat.le_of_ble_eq_true rfl) ?_
  intro p ev s m args below meth c A ls S hr hlk G hl
  have hx := S.1
  have hb := S.2.1
  have hown : s.vm.findClass RX3 = some m.cls := S.2.2.2.1
  have hts := S.2.2.2.2
  have hl : lv_has ls 2 [(0, .ref x), (1, .int tn)] := hl
  have hiX2 : ∀ w ∈ wsX20, w ∈ wsX3_position := by decide +kernel
  have hiX3 : ∀ w ∈ wsX30, w ∈ wsX3_position := by decide +kernel
  have hf10 := hts (.fieldLink RX3 10 "StrikingWork" "now" "LStrikingWork$State;") (by decide +kernel)
  have hf59 := hts (.fieldLink RX3 59 "StrikingWork$Train" "position" "I") (by decide +kernel)
  by_cases c_1 : tn = 0
  · skip
    have hl : lv_has ls 2 [(0, .ref x), (1, .int 0)] := by rw [← c_1]; exact hl
    refine lv_iload_n hx hb dX3_position_0 rfl (lv_at hl 1 rfl) ?_
    refine k_callS (n := 1) (As := [.int 0]) (rest := []) (st1 := [.int 1]) (ws1 := ((x, .inr (3, [.ref (a 0), .ref sv, .ref tl, .ref er, .int sc])) :: (er, .inl (cI, 3, .inl z)) :: stW cI a r e ([]))) S G (c_X3_isTrain l D cI cS 0) gX3_position_X3_isTrain rfl (by decide +kernel) ⟨⟨rfl, rfl⟩, Nat.le_of_ble_eq_true rfl, Nat.le_of_ble_eq_true rfl⟩ [] (by decide) rfl [] rfl rfl rfl hl.1 rfl (Nat.le_of_ble_eq_true rfl) ⟨Nat.zero_le _, Nat.zero_le _⟩ dX3_position_1 (congrArg (fun z => Value.int z :: []) (by decide : (s_X3_isTrain 0) = 1)) rfl (fun H locs G => ?_)
    refine lv_if_eq (tgt := 21) hx hb dX3_position_4 (by decide) (fun c_2 => absurd c_2 (by decide)) (fun c_2 => ?_)
    refine lv_aload_n hx hb dX3_position_7 rfl (lv_at hl 0 rfl) ?_
    refine k_get (v := .ref (a 0)) S G 0 rfl rfl hiX3 0 (by decide) hf10 rfl dX3_position_8 ?_
    refine lv_iload_n hx hb dX3_position_11 rfl (lv_at hl 1 rfl) ?_
    refine k_callV (n := 1) (As := [.int 0]) (rest := []) (st1 := [.ref (a 1)]) (ws1 := ((x, .inr (3, [.ref (a 0), .ref sv, .ref tl, .ref er, .int sc])) :: (er, .inl (cI, 3, .inl z)) :: stW cI a r e ([]))) S G (c_X0_trainOf_0 l D cI cS a r e) gX3_position_X0_trainOf rfl (by decide +kernel) ⟨⟨rfl, rfl⟩, Nat.le_of_ble_eq_true rfl, Nat.le_of_ble_eq_true rfl⟩ [2, 3, 4, 5, 6, 7, 8] (by decide) rfl [(a 0), (a 1), (a 2), (a 3), (a 4), (a 5), (a 6)] rfl rfl 2 rfl rfl rfl hl.1 rfl (Nat.le_of_ble_eq_true rfl) ⟨Nat.zero_le _, Nat.zero_le _⟩ dX3_position_12 rfl rfl (fun H locs G => ?_)
    refine k_get (v := .int (r 5)) S G 3 rfl rfl hiX2 2 (by decide) hf59 rfl dX3_position_15 ?_
    refine lv_goto (tgt := 27) hx hb dX3_position_18 (by decide) ?_
    have es : (s_X3_position z r tn) = ((r 5), z) := by rw [s_X3_position, if_pos c_1]
    exact k_iret S G hr hlk dX3_position_27 (by first | (rw [es]; done) | (rw [es]; rfl) | (simp only [es]; done) | (simp only [es]; rfl)) (by first | (rw [es]; done) | (rw [es]; rfl) | (simp only [es]; done) | (simp only [es]; rfl))
  · skip
    by_cases c_3 : tn = 1
    · skip
      have hl : lv_has ls 2 [(0, .ref x), (1, .int 1)] := by rw [← c_3]; exact hl
      refine lv_iload_n hx hb dX3_position_0 rfl (lv_at hl 1 rfl) ?_
      refine k_callS (n := 1) (As := [.int 1]) (rest := []) (st1 := [.int 1]) (ws1 := ((x, .inr (3, [.ref (a 0), .ref sv, .ref tl, .ref er, .int sc])) :: (er, .inl (cI, 3, .inl z)) :: stW cI a r e ([]))) S G (c_X3_isTrain l D cI cS 1) gX3_position_X3_isTrain rfl (by decide +kernel) ⟨⟨rfl, rfl⟩, Nat.le_of_ble_eq_true rfl, Nat.le_of_ble_eq_true rfl⟩ [] (by decide) rfl [] rfl rfl rfl hl.1 rfl (Nat.le_of_ble_eq_true rfl) ⟨Nat.zero_le _, Nat.zero_le _⟩ dX3_position_1 (congrArg (fun z => Value.int z :: []) (by decide : (s_X3_isTrain 1) = 1)) rfl (fun H locs G => ?_)
      refine lv_if_eq (tgt := 21) hx hb dX3_position_4 (by decide) (fun c_4 => absurd c_4 (by decide)) (fun c_4 => ?_)
      refine lv_aload_n hx hb dX3_position_7 rfl (lv_at hl 0 rfl) ?_
      refine k_get (v := .ref (a 0)) S G 0 rfl rfl hiX3 0 (by decide) hf10 rfl dX3_position_8 ?_
      refine lv_iload_n hx hb dX3_position_11 rfl (lv_at hl 1 rfl) ?_
      refine k_callV (n := 1) (As := [.int 1]) (rest := []) (st1 := [.ref (a 2)]) (ws1 := ((x, .inr (3, [.ref (a 0), .ref sv, .ref tl, .ref er, .int sc])) :: (er, .inl (cI, 3, .inl z)) :: stW cI a r e ([]))) S G (c_X0_trainOf_1 l D cI cS a r e) gX3_position_X0_trainOf rfl (by decide +kernel) ⟨⟨rfl, rfl⟩, Nat.le_of_ble_eq_true rfl, Nat.le_of_ble_eq_true rfl⟩ [2, 3, 4, 5, 6, 7, 8] (by decide) rfl [(a 0), (a 1), (a 2), (a 3), (a 4), (a 5), (a 6)] rfl rfl 2 rfl rfl rfl hl.1 rfl (Nat.le_of_ble_eq_true rfl) ⟨Nat.zero_le _, Nat.zero_le _⟩ dX3_position_12 rfl rfl (fun H locs G => ?_)
      refine k_get (v := .int (r 10)) S G 4 rfl rfl hiX2 2 (by decide) hf59 rfl dX3_position_15 ?_
      refine lv_goto (tgt := 27) hx hb dX3_position_18 (by decide) ?_
      have es : (s_X3_position z r tn) = ((r 10), z) := by rw [s_X3_position, if_neg c_1, if_pos c_3]
      exact k_iret S G hr hlk dX3_position_27 (by first | (rw [es]; done) | (rw [es]; rfl) | (simp only [es]; done) | (simp only [es]; rfl)) (by first | (rw [es]; done) | (rw [es]; rfl) | (simp only [es]; done) | (simp only [es]; rfl))
    · skip
      refine lv_iload_n hx hb dX3_position_0 rfl (lv_at hl 1 rfl) ?_
      refine k_callS (n := 1) (As := [.int tn]) (rest := []) (st1 := [.int 0]) (ws1 := ((x, .inr (3, [.ref (a 0), .ref sv, .ref tl, .ref er, .int sc])) :: (er, .inl (cI, 3, .inl z)) :: stW cI a r e ([]))) S G (c_X3_isTrain l D cI cS tn) gX3_position_X3_isTrain rfl (by decide +kernel) ⟨⟨rfl, rfl⟩, Nat.le_of_ble_eq_true rfl, Nat.le_of_ble_eq_true rfl⟩ [] (by decide) rfl [] rfl rfl rfl hl.1 rfl (Nat.le_of_ble_eq_true rfl) ⟨Nat.zero_le _, Nat.zero_le _⟩ dX3_position_1 (congrArg (fun z => Value.int z :: []) (by rw [s_X3_isTrain, if_neg c_1, if_neg c_3])) rfl (fun H locs G => ?_)
      refine lv_if_eq (tgt := 21) hx hb dX3_position_4 (by decide) (fun c_5 => ?_) (fun c_5 => absurd c_5 (by decide))
      refine lv_aload_n hx hb dX3_position_21 rfl (lv_at hl 0 rfl) ?_
      refine lv_bipush (v := (-2)) hx hb dX3_position_22 (by decide) ?_
      refine k_callV (n := 1) (As := [.int (-2)]) (rest := []) (st1 := [.int (-2)]) (ws1 := ((x, .inr (3, [.ref (a 0), .ref sv, .ref tl, .ref er, .int sc])) :: (er, .inl (cI, 3, .inl (upd z 0 ((z 0) + 1)))) :: stW cI a r e ([]))) S G (c_X3_refuse_2 l D cI cS (a 0) x sv tl er sc z) gX3_position_X3_refuse rfl (by decide +kernel) ⟨⟨rfl, rfl⟩, Nat.le_of_ble_eq_true rfl, Nat.le_of_ble_eq_true rfl⟩ [0, 1] (by decide) rfl [x, er] rfl rfl 0 rfl rfl rfl hl.1 rfl (Nat.le_of_ble_eq_true rfl) ⟨Nat.zero_le _, Nat.zero_le _⟩ dX3_position_24 rfl rfl (fun H locs G => ?_)
      have es : (s_X3_position z r tn) = ((-2), (upd z 0 ((z 0) + 1))) := by rw [s_X3_position, if_neg c_1, if_neg c_3]
      exact k_iret S G hr hlk dX3_position_27 (by first | (rw [es]; done) | (rw [es]; rfl) | (simp only [es]; done) | (simp only [es]; rfl)) (by first | (rw [es]; done) | (rw [es]; rfl) | (simp only [es]; done) | (simp only [es]; rfl))
def s_X3_weight (z : Nat → Int32) (r : Nat → Int32) (tn : Int32) : Int32 × (Nat → Int32) := (if tn = 0 then ((r 6), z) else (if tn = 1 then ((r 11), z) else ((-2), (upd z 0 ((z 0) + 1)))))
set_option maxHeartbeats 4000000 in
set_option maxRecDepth 100000 in
theorem c_X3_weight (l : Launch) (D : va_G) (cI cS : ClassId) (x : Nat) (sv : Nat) (tl : Nat) (er : Nat) (sc : Int32) (z : Nat → Int32) (a : Nat → Nat) (r : Nat → Int32) (e : Nat → Nat → Int32) (tn : Int32) : Ct l yX3_weight wsX3_weight ({ frames := 2, cells := 0, slots := 0, locals := 41 }) D (tyL cI cS) [.ref x, .int tn] ((x, .inr (3, [.ref (a 0), .ref sv, .ref tl, .ref er, .int sc])) :: (er, .inl (cI, 3, .inl z)) :: stW cI a r e ([])) (some (.int ((s_X3_weight z r tn).1))) ((x, .inr (3, [.ref (a 0), .ref sv, .ref tl, .ref er, .int sc])) :: (er, .inl (cI, 3, .inl ((s_X3_weight z r tn).2))) :: stW cI a r e ([])) := by
  refine Ct.of (cc := cX3_weight) (maxL := 2) (ret := (some .int)) (by decide) rfl (Nat.le_of_ble_eq_true rfl) ?_
  intro p ev s m args below meth c A ls S hr hlk G hl
  have hx := S.1
  have hb := S.2.1
  have hown : s.vm.findClass RX3 = some m.cls := S.2.2.2.1
  have hts := S.2.2.2.2
  have hl : lv_has ls 2 [(0, .ref x), (1, .int tn)] := hl
  have hiX2 : ∀ w ∈ wsX20, w ∈ wsX3_weight := by decide +kernel
  have hiX3 : ∀ w ∈ wsX30, w ∈ wsX3_weight := by decide +kernel
  have hf10 := hts (.fieldLink RX3 10 "StrikingWork" "now" "LStrikingWork$State;") (by decide +kernel)
  have hf74 := hts (.fieldLink RX3 74 "StrikingWork$Train" "weight" "I") (by decide +kernel)
  by_cases c_1 : tn = 0
  · skip
    have hl : lv_has ls 2 [(0, .ref x), (1, .int 0)] := by rw [← c_1]; exact hl
    refine lv_iload_n hx hb dX3_weight_0 rfl (lv_at hl 1 rfl) ?_
    refine k_callS (n := 1) (As := [.int 0]) (rest := []) (st1 := [.int 1]) (ws1 := ((x, .inr (3, [.ref (a 0), .ref sv, .ref tl, .ref er, .int sc])) :: (er, .inl (cI, 3, .inl z)) :: stW cI a r e ([]))) S G (c_X3_isTrain l D cI cS 0) gX3_weight_X3_isTrain rfl (by decide +kernel) ⟨⟨rfl, rfl⟩, Nat.le_of_ble_eq_true rfl, Nat.le_of_ble_eq_true rfl⟩ [] (by decide) rfl [] rfl rfl rfl hl.1 rfl (Nat.le_of_ble_eq_true rfl) ⟨Nat.zero_le _, Nat.zero_le _⟩ dX3_weight_1 (congrArg (fun z => Value.int z :: []) (by decide : (s_X3_isTrain 0) = 1)) rfl (fun H locs G => ?_)
    refine lv_if_eq (tgt := 21) hx hb dX3_weight_4 (by decide) (fun c_2 => absurd c_2 (by decide)) (fun c_2 => ?_)
    refine lv_aload_n hx hb dX3_weight_7 rfl (lv_at hl 0 rfl) ?_
    refine k_get (v := .ref (a 0)) S G 0 rfl rfl hiX3 0 (by decide) hf10 rfl dX3_weight_8 ?_
    refine lv_iload_n hx hb dX3_weight_11 rfl (lv_at hl 1 rfl) ?_
    refine k_callV (n := 1) (As := [.int 0]) (rest := []) (st1 := [.ref (a 1)]) (ws1 := ((x, .inr (3, [.ref (a 0), .ref sv, .ref tl, .ref er, .int sc])) :: (er, .inl (cI, 3, .inl z)) :: stW cI a r e ([]))) S G (c_X0_trainOf_0 l D cI cS a r e) gX3_weight_X0_trainOf rfl (by decide +kernel) ⟨⟨rfl, rfl⟩, Nat.le_of_ble_eq_true rfl, Nat.le_of_ble_eq_true rfl⟩ [2, 3, 4, 5, 6, 7, 8] (by decide) rfl [(a 0), (a 1), (a 2), (a 3), (a 4), (a 5), (a 6)] rfl rfl 2 rfl rfl rfl hl.1 rfl (Nat.le_of_ble_eq_true rfl) ⟨Nat.zero_le _, Nat.zero_le _⟩ dX3_weight_12 rfl rfl (fun H locs G => ?_)
    refine k_get (v := .int (r 6)) S G 3 rfl rfl hiX2 3 (by decide) hf74 rfl dX3_weight_15 ?_
    refine lv_goto (tgt := 27) hx hb dX3_weight_18 (by decide) ?_
    have es : (s_X3_weight z r tn) = ((r 6), z) := by rw [s_X3_weight, if_pos c_1]
    exact k_iret S G hr hlk dX3_weight_27 (by first | (rw [es]; done) | (rw [es]; rfl) | (simp only [es]; done) | (simp only [es]; rfl)) (by first | (rw [es]; done) | (rw [es]; rfl) | (simp only [es]; done) | (simp only [es]; rfl))
  · skip
    by_cases c_3 : tn = 1
    · skip
      have hl : lv_has ls 2 [(0, .ref x), (1, .int 1)] := by rw [← c_3]; exact hl
      refine lv_iload_n hx hb dX3_weight_0 rfl (lv_at hl 1 rfl) ?_
      refine k_callS (n := 1) (As := [.int 1]) (rest := []) (st1 := [.int 1]) (ws1 := ((x, .inr (3, [.ref (a 0), .ref sv, .ref tl, .ref er, .int sc])) :: (er, .inl (cI, 3, .inl z)) :: stW cI a r e ([]))) S G (c_X3_isTrain l D cI cS 1) gX3_weight_X3_isTrain rfl (by decide +kernel) ⟨⟨rfl, rfl⟩, Nat.le_of_ble_eq_true rfl, Nat.le_of_ble_eq_true rfl⟩ [] (by decide) rfl [] rfl rfl rfl hl.1 rfl (Nat.le_of_ble_eq_true rfl) ⟨Nat.zero_le _, Nat.zero_le _⟩ dX3_weight_1 (congrArg (fun z => Value.int z :: []) (by decide : (s_X3_isTrain 1) = 1)) rfl (fun H locs G => ?_)
      refine lv_if_eq (tgt := 21) hx hb dX3_weight_4 (by decide) (fun c_4 => absurd c_4 (by decide)) (fun c_4 => ?_)
      refine lv_aload_n hx hb dX3_weight_7 rfl (lv_at hl 0 rfl) ?_
      refine k_get (v := .ref (a 0)) S G 0 rfl rfl hiX3 0 (by decide) hf10 rfl dX3_weight_8 ?_
      refine lv_iload_n hx hb dX3_weight_11 rfl (lv_at hl 1 rfl) ?_
      refine k_callV (n := 1) (As := [.int 1]) (rest := []) (st1 := [.ref (a 2)]) (ws1 := ((x, .inr (3, [.ref (a 0), .ref sv, .ref tl, .ref er, .int sc])) :: (er, .inl (cI, 3, .inl z)) :: stW cI a r e ([]))) S G (c_X0_trainOf_1 l D cI cS a r e) gX3_weight_X0_trainOf rfl (by decide +kernel) ⟨⟨rfl, rfl⟩, Nat.le_of_ble_eq_true rfl, Nat.le_of_ble_eq_true rfl⟩ [2, 3, 4, 5, 6, 7, 8] (by decide) rfl [(a 0), (a 1), (a 2), (a 3), (a 4), (a 5), (a 6)] rfl rfl 2 rfl rfl rfl hl.1 rfl (Nat.le_of_ble_eq_true rfl) ⟨Nat.zero_le _, Nat.zero_le _⟩ dX3_weight_12 rfl rfl (fun H locs G => ?_)
      refine k_get (v := .int (r 11)) S G 4 rfl rfl hiX2 3 (by decide) hf74 rfl dX3_weight_15 ?_
      refine lv_goto (tgt := 27) hx hb dX3_weight_18 (by decide) ?_
      have es : (s_X3_weight z r tn) = ((r 11), z) := by rw [s_X3_weight, if_neg c_1, if_pos c_3]
      exact k_iret S G hr hlk dX3_weight_27 (by first | (rw [es]; done) | (rw [es]; rfl) | (simp only [es]; done) | (simp only [es]; rfl)) (by first | (rw [es]; done) | (rw [es]; rfl) | (simp only [es]; done) | (simp only [es]; rfl))
    · skip
      refine lv_iload_n hx hb dX3_weight_0 rfl (lv_at hl 1 rfl) ?_
      refine k_callS (n := 1) (As := [.int tn]) (rest := []) (st1 := [.int 0]) (ws1 := ((x, .inr (3, [.ref (a 0), .ref sv, .ref tl, .ref er, .int sc])) :: (er, .inl (cI, 3, .inl z)) :: stW cI a r e ([]))) S G (c_X3_isTrain l D cI cS tn) gX3_weight_X3_isTrain rfl (by decide +kernel) ⟨⟨rfl, rfl⟩, Nat.le_of_ble_eq_true rfl, Nat.le_of_ble_eq_true rfl⟩ [] (by decide) rfl [] rfl rfl rfl hl.1 rfl (Nat.le_of_ble_eq_true rfl) ⟨Nat.zero_le _, Nat.zero_le _⟩ dX3_weight_1 (congrArg (fun z => Value.int z :: []) (by rw [s_X3_isTrain, if_neg c_1, if_neg c_3])) rfl (fun H locs G => ?_)
      refine lv_if_eq (tgt := 21) hx hb dX3_weight_4 (by decide) (fun c_5 => ?_) (fun c_5 => absurd c_5 (by decide))
      refine lv_aload_n hx hb dX3_weight_21 rfl (lv_at hl 0 rfl) ?_
      refine lv_bipush (v := (-2)) hx hb dX3_weight_22 (by decide) ?_
      refine k_callV (n := 1) (As := [.int (-2)]) (rest := []) (st1 := [.int (-2)]) (ws1 := ((x, .inr (3, [.ref (a 0), .ref sv, .ref tl, .ref er, .int sc])) :: (er, .inl (cI, 3, .inl (upd z 0 ((z 0) + 1)))) :: stW cI a r e ([]))) S G (c_X3_refuse_2 l D cI cS (a 0) x sv tl er sc z) gX3_weight_X3_refuse rfl (by decide +kernel) ⟨⟨rfl, rfl⟩, Nat.le_of_ble_eq_true rfl, Nat.le_of_ble_eq_true rfl⟩ [0, 1] (by decide) rfl [x, er] rfl rfl 0 rfl rfl rfl hl.1 rfl (Nat.le_of_ble_eq_true rfl) ⟨Nat.zero_le _, Nat.zero_le _⟩ dX3_weight_24 rfl rfl (fun H locs G => ?_)
      have es : (s_X3_weight z r tn) = ((-2), (upd z 0 ((z 0) + 1))) := by rw [s_X3_weight, if_neg c_1, if_neg c_3]
      exact k_iret S G hr hlk dX3_weight_27 (by first | (rw [es]; done) | (rw [es]; rfl) | (simp only [es]; done) | (simp only [es]; rfl)) (by first | (rw [es]; done) | (rw [es]; rfl) | (simp only [es]; done) | (simp only [es]; rfl))
def s_X3_sounded (z : Nat → Int32) (r : Nat → Int32) (tn : Int32) : Int32 × (Nat → Int32) := (if tn = 0 then ((r 7), z) else (if tn = 1 then ((r 12), z) else ((-2), (upd z 0 ((z 0) + 1)))))
set_option maxHeartbeats 4000000 in
set_option maxRecDepth 100000 in
theorem c_X3_sounded (l : Launch) (D : va_G) (cI cS : ClassId) (x : Nat) (sv : Nat) (tl : Nat) (er : Nat) (sc : Int32) (z : Nat → Int32) (a : Nat → Nat) (r : Nat → Int32) (e : Nat → Nat → Int32) (tn : Int32) : Ct l yX3_sounded wsX3_sounded ({ frames := 2, cells := 0, slots := 0, locals := 41 }) D (tyL cI cS) [.ref x, .int tn] ((x, .inr (3, [.ref (a 0), .ref sv, .ref tl, .ref er, .int sc])) :: (er, .inl (cI, 3, .inl z)) :: stW cI a r e ([])) (some (.int ((s_X3_sounded z r tn).1))) ((x, .inr (3, [.ref (a 0), .ref sv, .ref tl, .ref er, .int sc])) :: (er, .inl (cI, 3, .inl ((s_X3_sounded z r tn).2))) :: stW cI a r e ([])) := by
  refine Ct.of (cc := cX3_sounded) (maxL := 2) (ret := (some .int)) (by decide) rfl (Nat.le_of_ble_eq_true rfl) ?_
  intro p ev s m args below meth c A ls S hr hlk G hl
  have hx := S.1
  have hb := S.2.1
  have hown : s.vm.findClass RX3 = some m.cls := S.2.2.2.1
  have hts := S.2.2.2.2
  have hl : lv_has ls 2 [(0, .ref x), (1, .int tn)] := hl
  have hiX2 : ∀ w ∈ wsX20, w ∈ wsX3_sounded := by decide +kernel
  have hiX3 : ∀ w ∈ wsX30, w ∈ wsX3_sounded := by decide +kernel
  have hf10 := hts (.fieldLink RX3 10 "StrikingWork" "now" "LStrikingWork$State;") (by decide +kernel)
  have hf130 := hts (.fieldLink RX3 130 "StrikingWork$Train" "sounded" "I") (by decide +kernel)
  by_cases c_1 : tn = 0
  · skip
    have hl : lv_has ls 2 [(0, .ref x), (1, .int 0)] := by rw [← c_1]; exact hl
    refine lv_iload_n hx hb dX3_sounded_0 rfl (lv_at hl 1 rfl) ?_
    refine k_callS (n := 1) (As := [.int 0]) (rest := []) (st1 := [.int 1]) (ws1 := ((x, .inr (3, [.ref (a 0), .ref sv, .ref tl, .ref er, .int sc])) :: (er, .inl (cI, 3, .inl z)) :: stW cI a r e ([]))) S G (c_X3_isTrain l D cI cS 0) gX3_sounded_X3_isTrain rfl (by decide +kernel) ⟨⟨rfl, rfl⟩, Nat.le_of_ble_eq_true rfl, Nat.le_of_ble_eq_true rfl⟩ [] (by decide) rfl [] rfl rfl rfl hl.1 rfl (Nat.le_of_ble_eq_true rfl) ⟨Nat.zero_le _, Nat.zero_le _⟩ dX3_sounded_1 (congrArg (fun z => Value.int z :: []) (by decide : (s_X3_isTrain 0) = 1)) rfl (fun H locs G => ?_)
    refine lv_if_eq (tgt := 21) hx hb dX3_sounded_4 (by decide) (fun c_2 => absurd c_2 (by decide)) (fun c_2 => ?_)
    refine lv_aload_n hx hb dX3_sounded_7 rfl (lv_at hl 0 rfl) ?_
    refine k_get (v := .ref (a 0)) S G 0 rfl rfl hiX3 0 (by decide) hf10 rfl dX3_sounded_8 ?_
    refine lv_iload_n hx hb dX3_sounded_11 rfl (lv_at hl 1 rfl) ?_
    refine k_callV (n := 1) (As := [.int 0]) (rest := []) (st1 := [.ref (a 1)]) (ws1 := ((x, .inr (3, [.ref (a 0), .ref sv, .ref tl, .ref er, .int sc])) :: (er, .inl (cI, 3, .inl z)) :: stW cI a r e ([]))) S G (c_X0_trainOf_0 l D cI cS a r e) gX3_sounded_X0_trainOf rfl (by decide +kernel) ⟨⟨rfl, rfl⟩, Nat.le_of_ble_eq_true rfl, Nat.le_of_ble_eq_true rfl⟩ [2, 3, 4, 5, 6, 7, 8] (by decide) rfl [(a 0), (a 1), (a 2), (a 3), (a 4), (a 5), (a 6)] rfl rfl 2 rfl rfl rfl hl.1 rfl (Nat.le_of_ble_eq_true rfl) ⟨Nat.zero_le _, Nat.zero_le _⟩ dX3_sounded_12 rfl rfl (fun H locs G => ?_)
    refine k_get (v := .int (r 7)) S G 3 rfl rfl hiX2 4 (by decide) hf130 rfl dX3_sounded_15 ?_
    refine lv_goto (tgt := 27) hx hb dX3_sounded_18 (by decide) ?_
    have es : (s_X3_sounded z r tn) = ((r 7), z) := by rw [s_X3_sounded, if_pos c_1]
    exact k_iret S G hr hlk dX3_sounded_27 (by first | (rw [es]; done) | (rw [es]; rfl) | (simp only [es]; done) | (simp only [es]; rfl)) (by first | (rw [es]; done) | (rw [es]; rfl) | (simp only [es]; done) | (simp only [es]; rfl))
  · skip
    by_cases c_3 : tn = 1
    · skip
      have hl : lv_has ls 2 [(0, .ref x), (1, .int 1)] := by rw [← c_3]; exact hl
      refine lv_iload_n hx hb dX3_sounded_0 rfl (lv_at hl 1 rfl) ?_
      refine k_callS (n := 1) (As := [.int 1]) (rest := []) (st1 := [.int 1]) (ws1 := ((x, .inr (3, [.ref (a 0), .ref sv, .ref tl, .ref er, .int sc])) :: (er, .inl (cI, 3, .inl z)) :: stW cI a r e ([]))) S G (c_X3_isTrain l D cI cS 1) gX3_sounded_X3_isTrain rfl (by decide +kernel) ⟨⟨rfl, rfl⟩, Nat.le_of_ble_eq_true rfl, Nat.le_of_ble_eq_true rfl⟩ [] (by decide) rfl [] rfl rfl rfl hl.1 rfl (Nat.le_of_ble_eq_true rfl) ⟨Nat.zero_le _, Nat.zero_le _⟩ dX3_sounded_1 (congrArg (fun z => Value.int z :: []) (by decide : (s_X3_isTrain 1) = 1)) rfl (fun H locs G => ?_)
      refine lv_if_eq (tgt := 21) hx hb dX3_sounded_4 (by decide) (fun c_4 => absurd c_4 (by decide)) (fun c_4 => ?_)
      refine lv_aload_n hx hb dX3_sounded_7 rfl (lv_at hl 0 rfl) ?_
      refine k_get (v := .ref (a 0)) S G 0 rfl rfl hiX3 0 (by decide) hf10 rfl dX3_sounded_8 ?_
      refine lv_iload_n hx hb dX3_sounded_11 rfl (lv_at hl 1 rfl) ?_
      refine k_callV (n := 1) (As := [.int 1]) (rest := []) (st1 := [.ref (a 2)]) (ws1 := ((x, .inr (3, [.ref (a 0), .ref sv, .ref tl, .ref er, .int sc])) :: (er, .inl (cI, 3, .inl z)) :: stW cI a r e ([]))) S G (c_X0_trainOf_1 l D cI cS a r e) gX3_sounded_X0_trainOf rfl (by decide +kernel) ⟨⟨rfl, rfl⟩, Nat.le_of_ble_eq_true rfl, Nat.le_of_ble_eq_true rfl⟩ [2, 3, 4, 5, 6, 7, 8] (by decide) rfl [(a 0), (a 1), (a 2), (a 3), (a 4), (a 5), (a 6)] rfl rfl 2 rfl rfl rfl hl.1 rfl (Nat.le_of_ble_eq_true rfl) ⟨Nat.zero_le _, Nat.zero_le _⟩ dX3_sounded_12 rfl rfl (fun H locs G => ?_)
      refine k_get (v := .int (r 12)) S G 4 rfl rfl hiX2 4 (by decide) hf130 rfl dX3_sounded_15 ?_
      refine lv_goto (tgt := 27) hx hb dX3_sounded_18 (by decide) ?_
      have es : (s_X3_sounded z r tn) = ((r 12), z) := by rw [s_X3_sounded, if_neg c_1, if_pos c_3]
      exact k_iret S G hr hlk dX3_sounded_27 (by first | (rw [es]; done) | (rw [es]; rfl) | (simp only [es]; done) | (simp only [es]; rfl)) (by first | (rw [es]; done) | (rw [es]; rfl) | (simp only [es]; done) | (simp only [es]; rfl))
    · skip
      refine lv_iload_n hx hb dX3_sounded_0 rfl (lv_at hl 1 rfl) ?_
      refine k_callS (n := 1) (As := [.int tn]) (rest := []) (st1 := [.int 0]) (ws1 := ((x, .inr (3, [.ref (a 0), .ref sv, .ref tl, .ref er, .int sc])) :: (er, .inl (cI, 3, .inl z)) :: stW cI a r e ([]))) S G (c_X3_isTrain l D cI cS tn) gX3_sounded_X3_isTrain rfl (by decide +kernel) ⟨⟨rfl, rfl⟩, Nat.le_of_ble_eq_true rfl, Nat.le_of_ble_eq_true rfl⟩ [] (by decide) rfl [] rfl rfl rfl hl.1 rfl (Nat.le_of_ble_eq_true rfl) ⟨Nat.zero_le _, Nat.zero_le _⟩ dX3_sounded_1 (congrArg (fun z => Value.int z :: []) (by rw [s_X3_isTrain, if_neg c_1, if_neg c_3])) rfl (fun H locs G => ?_)
      refine lv_if_eq (tgt := 21) hx hb dX3_sounded_4 (by decide) (fun c_5 => ?_) (fun c_5 => absurd c_5 (by decide))
      refine lv_aload_n hx hb dX3_sounded_21 rfl (lv_at hl 0 rfl) ?_
      refine lv_bipush (v := (-2)) hx hb dX3_sounded_22 (by decide) ?_
      refine k_callV (n := 1) (As := [.int (-2)]) (rest := []) (st1 := [.int (-2)]) (ws1 := ((x, .inr (3, [.ref (a 0), .ref sv, .ref tl, .ref er, .int sc])) :: (er, .inl (cI, 3, .inl (upd z 0 ((z 0) + 1)))) :: stW cI a r e ([]))) S G (c_X3_refuse_2 l D cI cS (a 0) x sv tl er sc z) gX3_sounded_X3_refuse rfl (by decide +kernel) ⟨⟨rfl, rfl⟩, Nat.le_of_ble_eq_true rfl, Nat.le_of_ble_eq_true rfl⟩ [0, 1] (by decide) rfl [x, er] rfl rfl 0 rfl rfl rfl hl.1 rfl (Nat.le_of_ble_eq_true rfl) ⟨Nat.zero_le _, Nat.zero_le _⟩ dX3_sounded_24 rfl rfl (fun H locs G => ?_)
      have es : (s_X3_sounded z r tn) = ((-2), (upd z 0 ((z 0) + 1))) := by rw [s_X3_sounded, if_neg c_1, if_neg c_3]
      exact k_iret S G hr hlk dX3_sounded_27 (by first | (rw [es]; done) | (rw [es]; rfl) | (simp only [es]; done) | (simp only [es]; rfl)) (by first | (rw [es]; done) | (rw [es]; rfl) | (simp only [es]; done) | (simp only [es]; rfl))
def s_X3_missed (z : Nat → Int32) (r : Nat → Int32) (tn : Int32) : Int32 × (Nat → Int32) := (if tn = 0 then ((r 8), z) else (if tn = 1 then ((r 13), z) else ((-2), (upd z 0 ((z 0) + 1)))))
set_option maxHeartbeats 4000000 in
set_option maxRecDepth 100000 in
theorem c_X3_missed (l : Launch) (D : va_G) (cI cS : ClassId) (x : Nat) (sv : Nat) (tl : Nat) (er : Nat) (sc : Int32) (z : Nat → Int32) (a : Nat → Nat) (r : Nat → Int32) (e : Nat → Nat → Int32) (tn : Int32) : Ct l yX3_missed wsX3_missed ({ frames := 2, cells := 0, slots := 0, locals := 41 }) D (tyL cI cS) [.ref x, .int tn] ((x, .inr (3, [.ref (a 0), .ref sv, .ref tl, .ref er, .int sc])) :: (er, .inl (cI, 3, .inl z)) :: stW cI a r e ([])) (some (.int ((s_X3_missed z r tn).1))) ((x, .inr (3, [.ref (a 0), .ref sv, .ref tl, .ref er, .int sc])) :: (er, .inl (cI, 3, .inl ((s_X3_missed z r tn).2))) :: stW cI a r e ([])) := by
  refine Ct.of (cc := cX3_missed) (maxL := 2) (ret := (some .int)) (by decide) rfl (Nat.le_of_ble_eq_true rfl) ?_
  intro p ev s m args below meth c A ls S hr hlk G hl
  have hx := S.1
  have hb := S.2.1
  have hown : s.vm.findClass RX3 = some m.cls := S.2.2.2.1
  have hts := S.2.2.2.2
  have hl : lv_has ls 2 [(0, .ref x), (1, .int tn)] := hl
  have hiX2 : ∀ w ∈ wsX20, w ∈ wsX3_missed := by decide +kernel
  have hiX3 : ∀ w ∈ wsX30, w ∈ wsX3_missed := by decide +kernel
  have hf10 := hts (.fieldLink RX3 10 "StrikingWork" "now" "LStrikingWork$State;") (by decide +kernel)
  have hf115 := hts (.fieldLink RX3 115 "StrikingWork$Train" "missed" "I") (by decide +kernel)
  by_cases c_1 : tn = 0
  · skip
    have hl : lv_has ls 2 [(0, .ref x), (1, .int 0)] := by rw [← c_1]; exact hl
    refine lv_iload_n hx hb dX3_missed_0 rfl (lv_at hl 1 rfl) ?_
    refine k_callS (n := 1) (As := [.int 0]) (rest := []) (st1 := [.int 1]) (ws1 := ((x, .inr (3, [.ref (a 0), .ref sv, .ref tl, .ref er, .int sc])) :: (er, .inl (cI, 3, .inl z)) :: stW cI a r e ([]))) S G (c_X3_isTrain l D cI cS 0) gX3_missed_X3_isTrain rfl (by decide +kernel) ⟨⟨rfl, rfl⟩, Nat.le_of_ble_eq_true rfl, Nat.le_of_ble_eq_true rfl⟩ [] (by decide) rfl [] rfl rfl rfl hl.1 rfl (Nat.le_of_ble_eq_true rfl) ⟨Nat.zero_le _, Nat.zero_le _⟩ dX3_missed_1 (congrArg (fun z => Value.int z :: []) (by decide : (s_X3_isTrain 0) = 1)) rfl (fun H locs G => ?_)
    refine lv_if_eq (tgt := 21) hx hb dX3_missed_4 (by decide) (fun c_2 => absurd c_2 (by decide)) (fun c_2 => ?_)
    refine lv_aload_n hx hb dX3_missed_7 rfl (lv_at hl 0 rfl) ?_
    refine k_get (v := .ref (a 0)) S G 0 rfl rfl hiX3 0 (by decide) hf10 rfl dX3_missed_8 ?_
    refine lv_iload_n hx hb dX3_missed_11 rfl (lv_at hl 1 rfl) ?_
    refine k_callV (n := 1) (As := [.int 0]) (rest := []) (st1 := [.ref (a 1)]) (ws1 := ((x, .inr (3, [.ref (a 0), .ref sv, .ref tl, .ref er, .int sc])) :: (er, .inl (cI, 3, .inl z)) :: stW cI a r e ([]))) S G (c_X0_trainOf_0 l D cI cS a r e) gX3_missed_X0_trainOf rfl (by decide +kernel) ⟨⟨rfl, rfl⟩, Nat.le_of_ble_eq_true rfl, Nat.le_of_ble_eq_true rfl⟩ [2, 3, 4, 5, 6, 7, 8] (by decide) rfl [(a 0), (a 1), (a 2), (a 3), (a 4), (a 5), (a 6)] rfl rfl 2 rfl rfl rfl hl.1 rfl (Nat.le_of_ble_eq_true rfl) ⟨Nat.zero_le _, Nat.zero_le _⟩ dX3_missed_12 rfl rfl (fun H locs G => ?_)
    refine k_get (v := .int (r 8)) S G 3 rfl rfl hiX2 5 (by decide) hf115 rfl dX3_missed_15 ?_
    refine lv_goto (tgt := 27) hx hb dX3_missed_18 (by decide) ?_
    have es : (s_X3_missed z r tn) = ((r 8), z) := by rw [s_X3_missed, if_pos c_1]
    exact k_iret S G hr hlk dX3_missed_27 (by first | (rw [es]; done) | (rw [es]; rfl) | (simp only [es]; done) | (simp only [es]; rfl)) (by first | (rw [es]; done) | (rw [es]; rfl) | (simp only [es]; done) | (simp only [es]; rfl))
  · skip
    by_cases c_3 : tn = 1
    · skip
      have hl : lv_has ls 2 [(0, .ref x), (1, .int 1)] := by rw [← c_3]; exact hl
      refine lv_iload_n hx hb dX3_missed_0 rfl (lv_at hl 1 rfl) ?_
      refine k_callS (n := 1) (As := [.int 1]) (rest := []) (st1 := [.int 1]) (ws1 := ((x, .inr (3, [.ref (a 0), .ref sv, .ref tl, .ref er, .int sc])) :: (er, .inl (cI, 3, .inl z)) :: stW cI a r e ([]))) S G (c_X3_isTrain l D cI cS 1) gX3_missed_X3_isTrain rfl (by decide +kernel) ⟨⟨rfl, rfl⟩, Nat.le_of_ble_eq_true rfl, Nat.le_of_ble_eq_true rfl⟩ [] (by decide) rfl [] rfl rfl rfl hl.1 rfl (Nat.le_of_ble_eq_true rfl) ⟨Nat.zero_le _, Nat.zero_le _⟩ dX3_missed_1 (congrArg (fun z => Value.int z :: []) (by decide : (s_X3_isTrain 1) = 1)) rfl (fun H locs G => ?_)
      refine lv_if_eq (tgt := 21) hx hb dX3_missed_4 (by decide) (fun c_4 => absurd c_4 (by decide)) (fun c_4 => ?_)
      refine lv_aload_n hx hb dX3_missed_7 rfl (lv_at hl 0 rfl) ?_
      refine k_get (v := .ref (a 0)) S G 0 rfl rfl hiX3 0 (by decide) hf10 rfl dX3_missed_8 ?_
      refine lv_iload_n hx hb dX3_missed_11 rfl (lv_at hl 1 rfl) ?_
      refine k_callV (n := 1) (As := [.int 1]) (rest := []) (st1 := [.ref (a 2)]) (ws1 := ((x, .inr (3, [.ref (a 0), .ref sv, .ref tl, .ref er, .int sc])) :: (er, .inl (cI, 3, .inl z)) :: stW cI a r e ([]))) S G (c_X0_trainOf_1 l D cI cS a r e) gX3_missed_X0_trainOf rfl (by decide +kernel) ⟨⟨rfl, rfl⟩, Nat.le_of_ble_eq_true rfl, Nat.le_of_ble_eq_true rfl⟩ [2, 3, 4, 5, 6, 7, 8] (by decide) rfl [(a 0), (a 1), (a 2), (a 3), (a 4), (a 5), (a 6)] rfl rfl 2 rfl rfl rfl hl.1 rfl (Nat.le_of_ble_eq_true rfl) ⟨Nat.zero_le _, Nat.zero_le _⟩ dX3_missed_12 rfl rfl (fun H locs G => ?_)
      refine k_get (v := .int (r 13)) S G 4 rfl rfl hiX2 5 (by decide) hf115 rfl dX3_missed_15 ?_
      refine lv_goto (tgt := 27) hx hb dX3_missed_18 (by decide) ?_
      have es : (s_X3_missed z r tn) = ((r 13), z) := by rw [s_X3_missed, if_neg c_1, if_pos c_3]
      exact k_iret S G hr hlk dX3_missed_27 (by first | (rw [es]; done) | (rw [es]; rfl) | (simp only [es]; done) | (simp only [es]; rfl)) (by first | (rw [es]; done) | (rw [es]; rfl) | (simp only [es]; done) | (simp only [es]; rfl))
    · skip
      refine lv_iload_n hx hb dX3_missed_0 rfl (lv_at hl 1 rfl) ?_
      refine k_callS (n := 1) (As := [.int tn]) (rest := []) (st1 := [.int 0]) (ws1 := ((x, .inr (3, [.ref (a 0), .ref sv, .ref tl, .ref er, .int sc])) :: (er, .inl (cI, 3, .inl z)) :: stW cI a r e ([]))) S G (c_X3_isTrain l D cI cS tn) gX3_missed_X3_isTrain rfl (by decide +kernel) ⟨⟨rfl, rfl⟩, Nat.le_of_ble_eq_true rfl, Nat.le_of_ble_eq_true rfl⟩ [] (by decide) rfl [] rfl rfl rfl hl.1 rfl (Nat.le_of_ble_eq_true rfl) ⟨Nat.zero_le _, Nat.zero_le _⟩ dX3_missed_1 (congrArg (fun z => Value.int z :: []) (by rw [s_X3_isTrain, if_neg c_1, if_neg c_3])) rfl (fun H locs G => ?_)
      refine lv_if_eq (tgt := 21) hx hb dX3_missed_4 (by decide) (fun c_5 => ?_) (fun c_5 => absurd c_5 (by decide))
      refine lv_aload_n hx hb dX3_missed_21 rfl (lv_at hl 0 rfl) ?_
      refine lv_bipush (v := (-2)) hx hb dX3_missed_22 (by decide) ?_
      refine k_callV (n := 1) (As := [.int (-2)]) (rest := []) (st1 := [.int (-2)]) (ws1 := ((x, .inr (3, [.ref (a 0), .ref sv, .ref tl, .ref er, .int sc])) :: (er, .inl (cI, 3, .inl (upd z 0 ((z 0) + 1)))) :: stW cI a r e ([]))) S G (c_X3_refuse_2 l D cI cS (a 0) x sv tl er sc z) gX3_missed_X3_refuse rfl (by decide +kernel) ⟨⟨rfl, rfl⟩, Nat.le_of_ble_eq_true rfl, Nat.le_of_ble_eq_true rfl⟩ [0, 1] (by decide) rfl [x, er] rfl rfl 0 rfl rfl rfl hl.1 rfl (Nat.le_of_ble_eq_true rfl) ⟨Nat.zero_le _, Nat.zero_le _⟩ dX3_missed_24 rfl rfl (fun H locs G => ?_)
      have es : (s_X3_missed z r tn) = ((-2), (upd z 0 ((z 0) + 1))) := by rw [s_X3_missed, if_neg c_1, if_neg c_3]
      exact k_iret S G hr hlk dX3_missed_27 (by first | (rw [es]; done) | (rw [es]; rfl) | (simp only [es]; done) | (simp only [es]; rfl)) (by first | (rw [es]; done) | (rw [es]; rfl) | (simp only [es]; done) | (simp only [es]; rfl))
def s_X3_minute (r : Nat → Int32) : Int32 := (r 0)
set_option maxHeartbeats 4000000 in
set_option maxRecDepth 100000 in
theorem c_X3_minute (l : Launch) (D : va_G) (cI cS : ClassId) (x : Nat) (sv : Nat) (tl : Nat) (er : Nat) (sc : Int32) (z : Nat → Int32) (a : Nat → Nat) (r : Nat → Int32) (e : Nat → Nat → Int32) : Ct l yX3_minute wsX3_minute ({ frames := 0, cells := 0, slots := 0, locals := 0 }) D (tyL cI cS) [.ref x] ((x, .inr (3, [.ref (a 0), .ref sv, .ref tl, .ref er, .int sc])) :: (er, .inl (cI, 3, .inl z)) :: stW cI a r e ([])) (some (.int (s_X3_minute r))) ((x, .inr (3, [.ref (a 0), .ref sv, .ref tl, .ref er, .int sc])) :: (er, .inl (cI, 3, .inl z)) :: stW cI a r e ([])) := by
  refine Ct.of (cc := cX3_minute) (maxL := 1) (ret := (some .int)) (by decide) rfl (Nat.le_of_ble_eq_true rfl) ?_
  intro p ev s m args below meth c A ls S hr hlk G hl
  have hx := S.1
  have hb := S.2.1
  have hown : s.vm.findClass RX3 = some m.cls := S.2.2.2.1
  have hts := S.2.2.2.2
  have hl : lv_has ls 1 [(0, .ref x)] := hl
  have hiX0 : ∀ w ∈ wsX00, w ∈ wsX3_minute := by decide +kernel
  have hiX3 : ∀ w ∈ wsX30, w ∈ wsX3_minute := by decide +kernel
  have hf10 := hts (.fieldLink RX3 10 "StrikingWork" "now" "LStrikingWork$State;") (by decide +kernel)
  have hf83 := hts (.fieldLink RX3 83 "StrikingWork$State" "minute" "I") (by decide +kernel)
  refine lv_aload_n hx hb dX3_minute_0 rfl (lv_at hl 0 rfl) ?_
  refine k_get (v := .ref (a 0)) S G 0 rfl rfl hiX3 0 (by decide) hf10 rfl dX3_minute_1 ?_
  refine k_get (v := .int (r 0)) S G 2 rfl rfl hiX0 3 (by decide) hf83 rfl dX3_minute_4 ?_
  have es : (s_X3_minute r) = (r 0) := rfl
  exact k_iret S G hr hlk dX3_minute_7 (by first | (rw [es]; done) | (rw [es]; rfl) | (simp only [es]; done) | (simp only [es]; rfl)) rfl
def s_X3_isSilent (z : Nat → Int32) (r : Nat → Int32) (q : Int32) : Int32 × (Nat → Int32) := (if (s_X3_isMinute q) = 0 then ((-2), (upd z 0 ((z 0) + 1))) else (if (s_X0_hushesAt r q) = 0 then (0, z) else (1, z)))
set_option maxHeartbeats 4000000 in
set_option maxRecDepth 100000 in
theorem c_X3_isSilent (l : Launch) (D : va_G) (cI cS : ClassId) (x : Nat) (sv : Nat) (tl : Nat) (er : Nat) (sc : Int32) (z : Nat → Int32) (a : Nat → Nat) (r : Nat → Int32) (e : Nat → Nat → Int32) (q : Int32) : Ct l yX3_isSilent wsX3_isSilent ({ frames := 2, cells := 0, slots := 0, locals := 41 }) D (tyL cI cS) [.ref x, .int q] ((x, .inr (3, [.ref (a 0), .ref sv, .ref tl, .ref er, .int sc])) :: (er, .inl (cI, 3, .inl z)) :: stW cI a r e ([])) (some (.int ((s_X3_isSilent z r q).1))) ((x, .inr (3, [.ref (a 0), .ref sv, .ref tl, .ref er, .int sc])) :: (er, .inl (cI, 3, .inl ((s_X3_isSilent z r q).2))) :: stW cI a r e ([])) := by
  refine Ct.of (cc := cX3_isSilent) (maxL := 2) (ret := (some .int)) (by decide) rfl (Nat.le_of_ble_eq_true rfl) ?_
  intro p ev s m args below meth c A ls S hr hlk G hl
  have hx := S.1
  have hb := S.2.1
  have hown : s.vm.findClass RX3 = some m.cls := S.2.2.2.1
  have hts := S.2.2.2.2
  have hl : lv_has ls 2 [(0, .ref x), (1, .int q)] := hl
  have hiX3 : ∀ w ∈ wsX30, w ∈ wsX3_isSilent := by decide +kernel
  have hf10 := hts (.fieldLink RX3 10 "StrikingWork" "now" "LStrikingWork$State;") (by decide +kernel)
  refine lv_iload_n hx hb dX3_isSilent_0 rfl (lv_at hl 1 rfl) ?_
  refine k_callS (n := 1) (As := [.int q]) (rest := []) (st1 := [.int (s_X3_isMinute q)]) (ws1 := ((x, .inr (3, [.ref (a 0), .ref sv, .ref tl, .ref er, .int sc])) :: (er, .inl (cI, 3, .inl z)) :: stW cI a r e ([]))) S G (c_X3_isMinute l D cI cS q) gX3_isSilent_X3_isMinute rfl (by decide +kernel) ⟨⟨rfl, rfl⟩, Nat.le_of_ble_eq_true rfl, Nat.le_of_ble_eq_true rfl⟩ [] (by decide) rfl [] rfl rfl rfl hl.1 rfl (Nat.le_of_ble_eq_true rfl) ⟨Nat.zero_le _, Nat.zero_le _⟩ dX3_isSilent_1 rfl rfl (fun H locs G => ?_)
  refine lv_if_ne (tgt := 14) hx hb dX3_isSilent_4 (by decide) (fun c_1 => ?_) (fun c_1 => ?_)
  · skip
    refine lv_aload_n hx hb dX3_isSilent_14 rfl (lv_at hl 0 rfl) ?_
    refine k_get (v := .ref (a 0)) S G 0 rfl rfl hiX3 0 (by decide) hf10 rfl dX3_isSilent_15 ?_
    refine lv_iload_n hx hb dX3_isSilent_18 rfl (lv_at hl 1 rfl) ?_
    refine k_callV (n := 1) (As := [.int q]) (rest := []) (st1 := [.int (s_X0_hushesAt r q)]) (ws1 := ((x, .inr (3, [.ref (a 0), .ref sv, .ref tl, .ref er, .int sc])) :: (er, .inl (cI, 3, .inl z)) :: stW cI a r e ([]))) S G (c_X0_hushesAt l D cI cS a r e q) gX3_isSilent_X0_hushesAt rfl (by decide +kernel) ⟨⟨rfl, rfl⟩, Nat.le_of_ble_eq_true rfl, Nat.le_of_ble_eq_true rfl⟩ [2, 3, 4, 5, 6, 7, 8] (by decide) rfl [(a 0), (a 1), (a 2), (a 3), (a 4), (a 5), (a 6)] rfl rfl 2 rfl rfl rfl hl.1 rfl (Nat.le_of_ble_eq_true rfl) ⟨Nat.zero_le _, Nat.zero_le _⟩ dX3_isSilent_19 rfl rfl (fun H locs G => ?_)
    refine lv_if_eq (tgt := 29) hx hb dX3_isSilent_22 (by decide) (fun c_2 => ?_) (fun c_2 => ?_)
    · skip
      refine lv_iconst (v := 0) hx hb dX3_isSilent_29 (by decide) ?_
      have es : (s_X3_isSilent z r q) = (0, z) := by rw [s_X3_isSilent, if_neg c_1, if_pos c_2]
      exact k_iret S G hr hlk dX3_isSilent_30 (by first | (rw [es]; done) | (rw [es]; rfl) | (simp only [es]; done) | (simp only [es]; rfl)) (by first | (rw [es]; done) | (rw [es]; rfl) | (simp only [es]; done) | (simp only [es]; rfl))
    · skip
      refine lv_iconst (v := 1) hx hb dX3_isSilent_25 (by decide) ?_
      refine lv_goto (tgt := 30) hx hb dX3_isSilent_26 (by decide) ?_
      have es : (s_X3_isSilent z r q) = (1, z) := by rw [s_X3_isSilent, if_neg c_1, if_neg c_2]
      exact k_iret S G hr hlk dX3_isSilent_30 (by first | (rw [es]; done) | (rw [es]; rfl) | (simp only [es]; done) | (simp only [es]; rfl)) (by first | (rw [es]; done) | (rw [es]; rfl) | (simp only [es]; done) | (simp only [es]; rfl))
  · skip
    refine lv_aload_n hx hb dX3_isSilent_7 rfl (lv_at hl 0 rfl) ?_
    refine lv_bipush (v := (-2)) hx hb dX3_isSilent_8 (by decide) ?_
    refine k_callV (n := 1) (As := [.int (-2)]) (rest := []) (st1 := [.int (-2)]) (ws1 := ((x, .inr (3, [.ref (a 0), .ref sv, .ref tl, .ref er, .int sc])) :: (er, .inl (cI, 3, .inl (upd z 0 ((z 0) + 1)))) :: stW cI a r e ([]))) S G (c_X3_refuse_2 l D cI cS (a 0) x sv tl er sc z) gX3_isSilent_X3_refuse rfl (by decide +kernel) ⟨⟨rfl, rfl⟩, Nat.le_of_ble_eq_true rfl, Nat.le_of_ble_eq_true rfl⟩ [0, 1] (by decide) rfl [x, er] rfl rfl 0 rfl rfl rfl hl.1 rfl (Nat.le_of_ble_eq_true rfl) ⟨Nat.zero_le _, Nat.zero_le _⟩ dX3_isSilent_10 rfl rfl (fun H locs G => ?_)
    have es : (s_X3_isSilent z r q) = ((-2), (upd z 0 ((z 0) + 1))) := by rw [s_X3_isSilent, if_pos c_1]
    exact k_iret S G hr hlk dX3_isSilent_13 (by first | (rw [es]; done) | (rw [es]; rfl) | (simp only [es]; done) | (simp only [es]; rfl)) (by first | (rw [es]; done) | (rw [es]; rfl) | (simp only [es]; done) | (simp only [es]; rfl))
theorem in_rec {q cn : Int32} (h0 : 0 ≤ q) (h2 : ¬ cn ≤ q) (hc : cnOk cn) : vp_in q 6 := by
  obtain ⟨N, hN, rfl⟩ := cnOk_nat hc
  have h1 : ¬ q < 0 := Int32.not_lt.mpr h0
  obtain ⟨j, hj, rfl⟩ := nI_of h1
  have : ¬ N ≤ j := fun z => h2 (nI_le z hj)
  exact vp_in_nI (by omega) (by decide)
theorem in_err {q : Int32} (h1 : ¬ q < (-4)) (h2 : q ≤ (-2)) : vp_in (s_X3_errorIndex q) 3 := by
  have h1 : -4 ≤ q.toInt := by have := Int32.le_iff_toInt_le.mp (Int32.not_lt.mp h1); simpa using this
  have h2 : q.toInt ≤ -2 := by have := Int32.le_iff_toInt_le.mp h2; simpa using this
  have e : q = Int32.ofInt q.toInt := (Int32.ofInt_toInt q).symm
  generalize q.toInt = w at h1 h2 e
  subst e
  rcases (show w = -4 ∨ w = -3 ∨ w = -2 by omega) with rfl | rfl | rfl <;> (unfold vp_in s_X3_errorIndex; decide)
def s_X3_strikeMinute (z : Nat → Int32) (r : Nat → Int32) (e : Nat → Nat → Int32) (q : Int32) : Int32 × (Nat → Int32) := (if 0 ≤ q then (if (r 14) ≤ q then ((-1), z) else (((e 0) q.toNatClampNeg), z)) else ((-2), (upd z 0 ((z 0) + 1))))
set_option maxHeartbeats 4000000 in
set_option maxRecDepth 100000 in
theorem c_X3_strikeMinute (l : Launch) (D : va_G) (cI cS : ClassId) (x : Nat) (sv : Nat) (tl : Nat) (er : Nat) (sc : Int32) (z : Nat → Int32) (a : Nat → Nat) (r : Nat → Int32) (e : Nat → Nat → Int32) (q : Int32) (hcn : cnOk (r 14)) : Ct l yX3_strikeMinute wsX3_strikeMinute ({ frames := 2, cells := 0, slots := 0, locals := 41 }) D (tyL cI cS) [.ref x, .int q] ((x, .inr (3, [.ref (a 0), .ref sv, .ref tl, .ref er, .int sc])) :: (er, .inl (cI, 3, .inl z)) :: stW cI a r e ([])) (some (.int ((s_X3_strikeMinute z r e q).1))) ((x, .inr (3, [.ref (a 0), .ref sv, .ref tl, .ref er, .int sc])) :: (er, .inl (cI, 3, .inl ((s_X3_strikeMinute z r e q).2))) :: stW cI a r e ([])) := by
  refine Ct.of (cc := cX3_strikeMinute) (maxL := 2) (ret := (some .int)) (by decide) rfl (Nat.le_of_ble_eq_true rfl) ?_
  intro p ev s m args below meth c A ls S hr hlk G hl
  have hx := S.1
  have hb := S.2.1
  have hown : s.vm.findClass RX3 = some m.cls := S.2.2.2.1
  have hts := S.2.2.2.2
  have hl : lv_has ls 2 [(0, .ref x), (1, .int q)] := hl
  have hiX0 : ∀ w ∈ wsX00, w ∈ wsX3_strikeMinute := by decide +kernel
  have hiX1 : ∀ w ∈ wsX10, w ∈ wsX3_strikeMinute := by decide +kernel
  have hiX3 : ∀ w ∈ wsX30, w ∈ wsX3_strikeMinute := by decide +kernel
  have hf10 := hts (.fieldLink RX3 10 "StrikingWork" "now" "LStrikingWork$State;") (by decide +kernel)
  have hf136 := hts (.fieldLink RX3 136 "StrikingWork$State" "strikes" "LStrikingWork$Strikes;") (by decide +kernel)
  have hf140 := hts (.fieldLink RX3 140 "StrikingWork$Strikes" "count" "I") (by decide +kernel)
  have hf145 := hts (.fieldLink RX3 145 "StrikingWork$Strikes" "minutes" "[I") (by decide +kernel)
  refine lv_iload_n hx hb dX3_strikeMinute_0 rfl (lv_at hl 1 rfl) ?_
  refine lv_if_ge (tgt := 11) hx hb dX3_strikeMinute_1 (by decide) (fun c_1 => ?_) (fun c_1 => ?_)
  · skip
    refine lv_iload_n hx hb dX3_strikeMinute_11 rfl (lv_at hl 1 rfl) ?_
    refine lv_aload_n hx hb dX3_strikeMinute_12 rfl (lv_at hl 0 rfl) ?_
    refine k_get (v := .ref (a 0)) S G 0 rfl rfl hiX3 0 (by decide) hf10 rfl dX3_strikeMinute_13 ?_
    refine k_get (v := .ref (a 3)) S G 2 rfl rfl hiX0 2 (by decide) hf136 rfl dX3_strikeMinute_16 ?_
    refine k_get (v := .int (r 14)) S G 5 rfl rfl hiX1 3 (by decide) hf140 rfl dX3_strikeMinute_19 ?_
    refine lv_icmp_ge (tgt := 40) hx hb dX3_strikeMinute_22 (by decide) (fun c_2 => ?_) (fun c_2 => ?_)
    · skip
      refine lv_iconst (v := (-1)) hx hb dX3_strikeMinute_40 (by decide) ?_
      have es : (s_X3_strikeMinute z r e q) = ((-1), z) := by rw [s_X3_strikeMinute, if_pos c_1, if_pos c_2]
      exact k_iret S G hr hlk dX3_strikeMinute_41 (by first | (rw [es]; done) | (rw [es]; rfl) | (simp only [es]; done) | (simp only [es]; rfl)) (by first | (rw [es]; done) | (rw [es]; rfl) | (simp only [es]; done) | (simp only [es]; rfl))
    · skip
      refine lv_aload_n hx hb dX3_strikeMinute_25 rfl (lv_at hl 0 rfl) ?_
      refine k_get (v := .ref (a 0)) S G 0 rfl rfl hiX3 0 (by decide) hf10 rfl dX3_strikeMinute_26 ?_
      refine k_get (v := .ref (a 3)) S G 2 rfl rfl hiX0 2 (by decide) hf136 rfl dX3_strikeMinute_29 ?_
      refine k_get (v := .ref (a 4)) S G 5 rfl rfl hiX1 0 (by decide) hf145 rfl dX3_strikeMinute_32 ?_
      refine lv_iload_n hx hb dX3_strikeMinute_35 rfl (lv_at hl 1 rfl) ?_
      refine k_iald (x := ((e 0) q.toNatClampNeg)) S G 6 0 rfl rfl (in_rec c_1 c_2 hcn) rfl dX3_strikeMinute_36 ?_
      refine lv_goto (tgt := 41) hx hb dX3_strikeMinute_37 (by decide) ?_
      have es : (s_X3_strikeMinute z r e q) = (((e 0) q.toNatClampNeg), z) := by rw [s_X3_strikeMinute, if_pos c_1, if_neg c_2]
      exact k_iret S G hr hlk dX3_strikeMinute_41 (by first | (rw [es]; done) | (rw [es]; rfl) | (simp only [es]; done) | (simp only [es]; rfl)) (by first | (rw [es]; done) | (rw [es]; rfl) | (simp only [es]; done) | (simp only [es]; rfl))
  · skip
    refine lv_aload_n hx hb dX3_strikeMinute_4 rfl (lv_at hl 0 rfl) ?_
    refine lv_bipush (v := (-2)) hx hb dX3_strikeMinute_5 (by decide) ?_
    refine k_callV (n := 1) (As := [.int (-2)]) (rest := []) (st1 := [.int (-2)]) (ws1 := ((x, .inr (3, [.ref (a 0), .ref sv, .ref tl, .ref er, .int sc])) :: (er, .inl (cI, 3, .inl (upd z 0 ((z 0) + 1)))) :: stW cI a r e ([]))) S G (c_X3_refuse_2 l D cI cS (a 0) x sv tl er sc z) gX3_strikeMinute_X3_refuse rfl (by decide +kernel) ⟨⟨rfl, rfl⟩, Nat.le_of_ble_eq_true rfl, Nat.le_of_ble_eq_true rfl⟩ [0, 1] (by decide) rfl [x, er] rfl rfl 0 rfl rfl rfl hl.1 rfl (Nat.le_of_ble_eq_true rfl) ⟨Nat.zero_le _, Nat.zero_le _⟩ dX3_strikeMinute_7 rfl rfl (fun H locs G => ?_)
    have es : (s_X3_strikeMinute z r e q) = ((-2), (upd z 0 ((z 0) + 1))) := by rw [s_X3_strikeMinute, if_neg c_1]
    exact k_iret S G hr hlk dX3_strikeMinute_10 (by first | (rw [es]; done) | (rw [es]; rfl) | (simp only [es]; done) | (simp only [es]; rfl)) (by first | (rw [es]; done) | (rw [es]; rfl) | (simp only [es]; done) | (simp only [es]; rfl))
def s_X3_strikeTrain (z : Nat → Int32) (r : Nat → Int32) (e : Nat → Nat → Int32) (q : Int32) : Int32 × (Nat → Int32) := (if 0 ≤ q then (if (r 14) ≤ q then ((-1), z) else (((e 1) q.toNatClampNeg), z)) else ((-2), (upd z 0 ((z 0) + 1))))
set_option maxHeartbeats 4000000 in
set_option maxRecDepth 100000 in
theorem c_X3_strikeTrain (l : Launch) (D : va_G) (cI cS : ClassId) (x : Nat) (sv : Nat) (tl : Nat) (er : Nat) (sc : Int32) (z : Nat → Int32) (a : Nat → Nat) (r : Nat → Int32) (e : Nat → Nat → Int32) (q : Int32) (hcn : cnOk (r 14)) : Ct l yX3_strikeTrain wsX3_strikeTrain ({ frames := 2, cells := 0, slots := 0, locals := 41 }) D (tyL cI cS) [.ref x, .int q] ((x, .inr (3, [.ref (a 0), .ref sv, .ref tl, .ref er, .int sc])) :: (er, .inl (cI, 3, .inl z)) :: stW cI a r e ([])) (some (.int ((s_X3_strikeTrain z r e q).1))) ((x, .inr (3, [.ref (a 0), .ref sv, .ref tl, .ref er, .int sc])) :: (er, .inl (cI, 3, .inl ((s_X3_strikeTrain z r e q).2))) :: stW cI a r e ([])) := by
  refine Ct.of (cc := cX3_strikeTrain) (maxL := 2) (ret := (some .int)) (by decide) rfl (Nat.le_of_ble_eq_true rfl) ?_
  intro p ev s m args below meth c A ls S hr hlk G hl
  have hx := S.1
  have hb := S.2.1
  have hown : s.vm.findClass RX3 = some m.cls := S.2.2.2.1
  have hts := S.2.2.2.2
  have hl : lv_has ls 2 [(0, .ref x), (1, .int q)] := hl
  have hiX0 : ∀ w ∈ wsX00, w ∈ wsX3_strikeTrain := by decide +kernel
  have hiX1 : ∀ w ∈ wsX10, w ∈ wsX3_strikeTrain := by decide +kernel
  have hiX3 : ∀ w ∈ wsX30, w ∈ wsX3_strikeTrain := by decide +kernel
  have hf10 := hts (.fieldLink RX3 10 "StrikingWork" "now" "LStrikingWork$State;") (by decide +kernel)
  have hf136 := hts (.fieldLink RX3 136 "StrikingWork$State" "strikes" "LStrikingWork$Strikes;") (by decide +kernel)
  have hf140 := hts (.fieldLink RX3 140 "StrikingWork$Strikes" "count" "I") (by decide +kernel)
  have hf148 := hts (.fieldLink RX3 148 "StrikingWork$Strikes" "trains" "[I") (by decide +kernel)
  refine lv_iload_n hx hb dX3_strikeTrain_0 rfl (lv_at hl 1 rfl) ?_
  refine lv_if_ge (tgt := 11) hx hb dX3_strikeTrain_1 (by decide) (fun c_1 => ?_) (fun c_1 => ?_)
  · skip
    refine lv_iload_n hx hb dX3_strikeTrain_11 rfl (lv_at hl 1 rfl) ?_
    refine lv_aload_n hx hb dX3_strikeTrain_12 rfl (lv_at hl 0 rfl) ?_
    refine k_get (v := .ref (a 0)) S G 0 rfl rfl hiX3 0 (by decide) hf10 rfl dX3_strikeTrain_13 ?_
    refine k_get (v := .ref (a 3)) S G 2 rfl rfl hiX0 2 (by decide) hf136 rfl dX3_strikeTrain_16 ?_
    refine k_get (v := .int (r 14)) S G 5 rfl rfl hiX1 3 (by decide) hf140 rfl dX3_strikeTrain_19 ?_
    refine lv_icmp_ge (tgt := 40) hx hb dX3_strikeTrain_22 (by decide) (fun c_2 => ?_) (fun c_2 => ?_)
    · skip
      refine lv_iconst (v := (-1)) hx hb dX3_strikeTrain_40 (by decide) ?_
      have es : (s_X3_strikeTrain z r e q) = ((-1), z) := by rw [s_X3_strikeTrain, if_pos c_1, if_pos c_2]
      exact k_iret S G hr hlk dX3_strikeTrain_41 (by first | (rw [es]; done) | (rw [es]; rfl) | (simp only [es]; done) | (simp only [es]; rfl)) (by first | (rw [es]; done) | (rw [es]; rfl) | (simp only [es]; done) | (simp only [es]; rfl))
    · skip
      refine lv_aload_n hx hb dX3_strikeTrain_25 rfl (lv_at hl 0 rfl) ?_
      refine k_get (v := .ref (a 0)) S G 0 rfl rfl hiX3 0 (by decide) hf10 rfl dX3_strikeTrain_26 ?_
      refine k_get (v := .ref (a 3)) S G 2 rfl rfl hiX0 2 (by decide) hf136 rfl dX3_strikeTrain_29 ?_
      refine k_get (v := .ref (a 5)) S G 5 rfl rfl hiX1 1 (by decide) hf148 rfl dX3_strikeTrain_32 ?_
      refine lv_iload_n hx hb dX3_strikeTrain_35 rfl (lv_at hl 1 rfl) ?_
      refine k_iald (x := ((e 1) q.toNatClampNeg)) S G 7 0 rfl rfl (in_rec c_1 c_2 hcn) rfl dX3_strikeTrain_36 ?_
      refine lv_goto (tgt := 41) hx hb dX3_strikeTrain_37 (by decide) ?_
      have es : (s_X3_strikeTrain z r e q) = (((e 1) q.toNatClampNeg), z) := by rw [s_X3_strikeTrain, if_pos c_1, if_neg c_2]
      exact k_iret S G hr hlk dX3_strikeTrain_41 (by first | (rw [es]; done) | (rw [es]; rfl) | (simp only [es]; done) | (simp only [es]; rfl)) (by first | (rw [es]; done) | (rw [es]; rfl) | (simp only [es]; done) | (simp only [es]; rfl))
  · skip
    refine lv_aload_n hx hb dX3_strikeTrain_4 rfl (lv_at hl 0 rfl) ?_
    refine lv_bipush (v := (-2)) hx hb dX3_strikeTrain_5 (by decide) ?_
    refine k_callV (n := 1) (As := [.int (-2)]) (rest := []) (st1 := [.int (-2)]) (ws1 := ((x, .inr (3, [.ref (a 0), .ref sv, .ref tl, .ref er, .int sc])) :: (er, .inl (cI, 3, .inl (upd z 0 ((z 0) + 1)))) :: stW cI a r e ([]))) S G (c_X3_refuse_2 l D cI cS (a 0) x sv tl er sc z) gX3_strikeTrain_X3_refuse rfl (by decide +kernel) ⟨⟨rfl, rfl⟩, Nat.le_of_ble_eq_true rfl, Nat.le_of_ble_eq_true rfl⟩ [0, 1] (by decide) rfl [x, er] rfl rfl 0 rfl rfl rfl hl.1 rfl (Nat.le_of_ble_eq_true rfl) ⟨Nat.zero_le _, Nat.zero_le _⟩ dX3_strikeTrain_7 rfl rfl (fun H locs G => ?_)
    have es : (s_X3_strikeTrain z r e q) = ((-2), (upd z 0 ((z 0) + 1))) := by rw [s_X3_strikeTrain, if_neg c_1]
    exact k_iret S G hr hlk dX3_strikeTrain_10 (by first | (rw [es]; done) | (rw [es]; rfl) | (simp only [es]; done) | (simp only [es]; rfl)) (by first | (rw [es]; done) | (rw [es]; rfl) | (simp only [es]; done) | (simp only [es]; rfl))
def s_X3_strikeBlows (z : Nat → Int32) (r : Nat → Int32) (e : Nat → Nat → Int32) (q : Int32) : Int32 × (Nat → Int32) := (if 0 ≤ q then (if (r 14) ≤ q then (0, z) else (((e 2) q.toNatClampNeg), z)) else ((-2), (upd z 0 ((z 0) + 1))))
set_option maxHeartbeats 4000000 in
set_option maxRecDepth 100000 in
theorem c_X3_strikeBlows (l : Launch) (D : va_G) (cI cS : ClassId) (x : Nat) (sv : Nat) (tl : Nat) (er : Nat) (sc : Int32) (z : Nat → Int32) (a : Nat → Nat) (r : Nat → Int32) (e : Nat → Nat → Int32) (q : Int32) (hcn : cnOk (r 14)) : Ct l yX3_strikeBlows wsX3_strikeBlows ({ frames := 2, cells := 0, slots := 0, locals := 41 }) D (tyL cI cS) [.ref x, .int q] ((x, .inr (3, [.ref (a 0), .ref sv, .ref tl, .ref er, .int sc])) :: (er, .inl (cI, 3, .inl z)) :: stW cI a r e ([])) (some (.int ((s_X3_strikeBlows z r e q).1))) ((x, .inr (3, [.ref (a 0), .ref sv, .ref tl, .ref er, .int sc])) :: (er, .inl (cI, 3, .inl ((s_X3_strikeBlows z r e q).2))) :: stW cI a r e ([])) := by
  refine Ct.of (cc := cX3_strikeBlows) (maxL := 2) (ret := (some .int)) (by decide) rfl (Nat.le_of_ble_eq_true rfl) ?_
  intro p ev s m args below meth c A ls S hr hlk G hl
  have hx := S.1
  have hb := S.2.1
  have hown : s.vm.findClass RX3 = some m.cls := S.2.2.2.1
  have hts := S.2.2.2.2
  have hl : lv_has ls 2 [(0, .ref x), (1, .int q)] := hl
  have hiX0 : ∀ w ∈ wsX00, w ∈ wsX3_strikeBlows := by decide +kernel
  have hiX1 : ∀ w ∈ wsX10, w ∈ wsX3_strikeBlows := by decide +kernel
  have hiX3 : ∀ w ∈ wsX30, w ∈ wsX3_strikeBlows := by decide +kernel
  have hf10 := hts (.fieldLink RX3 10 "StrikingWork" "now" "LStrikingWork$State;") (by decide +kernel)
  have hf136 := hts (.fieldLink RX3 136 "StrikingWork$State" "strikes" "LStrikingWork$Strikes;") (by decide +kernel)
  have hf140 := hts (.fieldLink RX3 140 "StrikingWork$Strikes" "count" "I") (by decide +kernel)
  have hf151 := hts (.fieldLink RX3 151 "StrikingWork$Strikes" "blows" "[I") (by decide +kernel)
  refine lv_iload_n hx hb dX3_strikeBlows_0 rfl (lv_at hl 1 rfl) ?_
  refine lv_if_ge (tgt := 11) hx hb dX3_strikeBlows_1 (by decide) (fun c_1 => ?_) (fun c_1 => ?_)
  · skip
    refine lv_iload_n hx hb dX3_strikeBlows_11 rfl (lv_at hl 1 rfl) ?_
    refine lv_aload_n hx hb dX3_strikeBlows_12 rfl (lv_at hl 0 rfl) ?_
    refine k_get (v := .ref (a 0)) S G 0 rfl rfl hiX3 0 (by decide) hf10 rfl dX3_strikeBlows_13 ?_
    refine k_get (v := .ref (a 3)) S G 2 rfl rfl hiX0 2 (by decide) hf136 rfl dX3_strikeBlows_16 ?_
    refine k_get (v := .int (r 14)) S G 5 rfl rfl hiX1 3 (by decide) hf140 rfl dX3_strikeBlows_19 ?_
    refine lv_icmp_ge (tgt := 40) hx hb dX3_strikeBlows_22 (by decide) (fun c_2 => ?_) (fun c_2 => ?_)
    · skip
      refine lv_iconst (v := 0) hx hb dX3_strikeBlows_40 (by decide) ?_
      have es : (s_X3_strikeBlows z r e q) = (0, z) := by rw [s_X3_strikeBlows, if_pos c_1, if_pos c_2]
      exact k_iret S G hr hlk dX3_strikeBlows_41 (by first | (rw [es]; done) | (rw [es]; rfl) | (simp only [es]; done) | (simp only [es]; rfl)) (by first | (rw [es]; done) | (rw [es]; rfl) | (simp only [es]; done) | (simp only [es]; rfl))
    · skip
      refine lv_aload_n hx hb dX3_strikeBlows_25 rfl (lv_at hl 0 rfl) ?_
      refine k_get (v := .ref (a 0)) S G 0 rfl rfl hiX3 0 (by decide) hf10 rfl dX3_strikeBlows_26 ?_
      refine k_get (v := .ref (a 3)) S G 2 rfl rfl hiX0 2 (by decide) hf136 rfl dX3_strikeBlows_29 ?_
      refine k_get (v := .ref (a 6)) S G 5 rfl rfl hiX1 2 (by decide) hf151 rfl dX3_strikeBlows_32 ?_
      refine lv_iload_n hx hb dX3_strikeBlows_35 rfl (lv_at hl 1 rfl) ?_
      refine k_iald (x := ((e 2) q.toNatClampNeg)) S G 8 0 rfl rfl (in_rec c_1 c_2 hcn) rfl dX3_strikeBlows_36 ?_
      refine lv_goto (tgt := 41) hx hb dX3_strikeBlows_37 (by decide) ?_
      have es : (s_X3_strikeBlows z r e q) = (((e 2) q.toNatClampNeg), z) := by rw [s_X3_strikeBlows, if_pos c_1, if_neg c_2]
      exact k_iret S G hr hlk dX3_strikeBlows_41 (by first | (rw [es]; done) | (rw [es]; rfl) | (simp only [es]; done) | (simp only [es]; rfl)) (by first | (rw [es]; done) | (rw [es]; rfl) | (simp only [es]; done) | (simp only [es]; rfl))
  · skip
    refine lv_aload_n hx hb dX3_strikeBlows_4 rfl (lv_at hl 0 rfl) ?_
    refine lv_bipush (v := (-2)) hx hb dX3_strikeBlows_5 (by decide) ?_
    refine k_callV (n := 1) (As := [.int (-2)]) (rest := []) (st1 := [.int (-2)]) (ws1 := ((x, .inr (3, [.ref (a 0), .ref sv, .ref tl, .ref er, .int sc])) :: (er, .inl (cI, 3, .inl (upd z 0 ((z 0) + 1)))) :: stW cI a r e ([]))) S G (c_X3_refuse_2 l D cI cS (a 0) x sv tl er sc z) gX3_strikeBlows_X3_refuse rfl (by decide +kernel) ⟨⟨rfl, rfl⟩, Nat.le_of_ble_eq_true rfl, Nat.le_of_ble_eq_true rfl⟩ [0, 1] (by decide) rfl [x, er] rfl rfl 0 rfl rfl rfl hl.1 rfl (Nat.le_of_ble_eq_true rfl) ⟨Nat.zero_le _, Nat.zero_le _⟩ dX3_strikeBlows_7 rfl rfl (fun H locs G => ?_)
    have es : (s_X3_strikeBlows z r e q) = ((-2), (upd z 0 ((z 0) + 1))) := by rw [s_X3_strikeBlows, if_neg c_1]
    exact k_iret S G hr hlk dX3_strikeBlows_10 (by first | (rw [es]; done) | (rw [es]; rfl) | (simp only [es]; done) | (simp only [es]; rfl)) (by first | (rw [es]; done) | (rw [es]; rfl) | (simp only [es]; done) | (simp only [es]; rfl))
def s_X3_errorCount (z : Nat → Int32) (q : Int32) : Int32 × (Nat → Int32) := (if q < (-4) then ((-2), (upd z 0 ((z 0) + 1))) else (if q ≤ (-2) then ((z ((s_X3_errorIndex q).toNatClampNeg)), z) else ((-2), (upd z 0 ((z 0) + 1)))))
set_option maxHeartbeats 4000000 in
set_option maxRecDepth 100000 in
theorem c_X3_errorCount (l : Launch) (D : va_G) (cI cS : ClassId) (x : Nat) (sv : Nat) (tl : Nat) (er : Nat) (sc : Int32) (z : Nat → Int32) (a : Nat → Nat) (r : Nat → Int32) (e : Nat → Nat → Int32) (q : Int32) : Ct l yX3_errorCount wsX3_errorCount ({ frames := 2, cells := 0, slots := 0, locals := 41 }) D (tyL cI cS) [.ref x, .int q] ((x, .inr (3, [.ref (a 0), .ref sv, .ref tl, .ref er, .int sc])) :: (er, .inl (cI, 3, .inl z)) :: stW cI a r e ([])) (some (.int ((s_X3_errorCount z q).1))) ((x, .inr (3, [.ref (a 0), .ref sv, .ref tl, .ref er, .int sc])) :: (er, .inl (cI, 3, .inl ((s_X3_errorCount z q).2))) :: stW cI a r e ([])) := by
  refine Ct.of (cc := cX3_errorCount) (maxL := 2) (ret := (some .int)) (by decide) rfl (Nat.le_of_ble_eq_true rfl) ?_
  intro p ev s m args below meth c A ls S hr hlk G hl
  have hx := S.1
  have hb := S.2.1
  have hown : s.vm.findClass RX3 = some m.cls := S.2.2.2.1
  have hts := S.2.2.2.2
  have hl : lv_has ls 2 [(0, .ref x), (1, .int q)] := hl
  have hiX3 : ∀ w ∈ wsX30, w ∈ wsX3_errorCount := by decide +kernel
  have hf29 := hts (.fieldLink RX3 29 "StrikingWork" "errors" "[I") (by decide +kernel)
  refine lv_iload_n hx hb dX3_errorCount_0 rfl (lv_at hl 1 rfl) ?_
  refine lv_bipush (v := (-4)) hx hb dX3_errorCount_1 (by decide) ?_
  refine lv_icmp_lt (tgt := 12) hx hb dX3_errorCount_3 (by decide) (fun c_1 => ?_) (fun c_1 => ?_)
  · skip
    refine lv_aload_n hx hb dX3_errorCount_12 rfl (lv_at hl 0 rfl) ?_
    refine lv_bipush (v := (-2)) hx hb dX3_errorCount_13 (by decide) ?_
    refine k_callV (n := 1) (As := [.int (-2)]) (rest := []) (st1 := [.int (-2)]) (ws1 := ((x, .inr (3, [.ref (a 0), .ref sv, .ref tl, .ref er, .int sc])) :: (er, .inl (cI, 3, .inl (upd z 0 ((z 0) + 1)))) :: stW cI a r e ([]))) S G (c_X3_refuse_2 l D cI cS (a 0) x sv tl er sc z) gX3_errorCount_X3_refuse rfl (by decide +kernel) ⟨⟨rfl, rfl⟩, Nat.le_of_ble_eq_true rfl, Nat.le_of_ble_eq_true rfl⟩ [0, 1] (by decide) rfl [x, er] rfl rfl 0 rfl rfl rfl hl.1 rfl (Nat.le_of_ble_eq_true rfl) ⟨Nat.zero_le _, Nat.zero_le _⟩ dX3_errorCount_15 rfl rfl (fun H locs G => ?_)
    have es : (s_X3_errorCount z q) = ((-2), (upd z 0 ((z 0) + 1))) := by rw [s_X3_errorCount, if_pos c_1]
    exact k_iret S G hr hlk dX3_errorCount_18 (by first | (rw [es]; done) | (rw [es]; rfl) | (simp only [es]; done) | (simp only [es]; rfl)) (by first | (rw [es]; done) | (rw [es]; rfl) | (simp only [es]; done) | (simp only [es]; rfl))
  · skip
    refine lv_iload_n hx hb dX3_errorCount_6 rfl (lv_at hl 1 rfl) ?_
    refine lv_bipush (v := (-2)) hx hb dX3_errorCount_7 (by decide) ?_
    refine lv_icmp_le (tgt := 19) hx hb dX3_errorCount_9 (by decide) (fun c_2 => ?_) (fun c_2 => ?_)
    · skip
      refine lv_aload_n hx hb dX3_errorCount_19 rfl (lv_at hl 0 rfl) ?_
      refine k_get (v := .ref er) S G 0 rfl rfl hiX3 3 (by decide) hf29 rfl dX3_errorCount_20 ?_
      refine lv_iload_n hx hb dX3_errorCount_23 rfl (lv_at hl 1 rfl) ?_
      refine k_callS (n := 1) (As := [.int q]) (rest := [.ref er]) (st1 := [.int (s_X3_errorIndex q), .ref er]) (ws1 := ((x, .inr (3, [.ref (a 0), .ref sv, .ref tl, .ref er, .int sc])) :: (er, .inl (cI, 3, .inl z)) :: stW cI a r e ([]))) S G (c_X3_errorIndex l D cI cS q) gX3_errorCount_X3_errorIndex rfl (by decide +kernel) ⟨⟨rfl, rfl⟩, Nat.le_of_ble_eq_true rfl, Nat.le_of_ble_eq_true rfl⟩ [] (by decide) rfl [] rfl rfl rfl hl.1 rfl (Nat.le_of_ble_eq_true rfl) ⟨Nat.zero_le _, Nat.zero_le _⟩ dX3_errorCount_24 rfl rfl (fun H locs G => ?_)
      refine k_iald (x := (z ((s_X3_errorIndex q).toNatClampNeg))) S G 1 0 rfl rfl (in_err c_1 c_2) rfl dX3_errorCount_27 ?_
      have es : (s_X3_errorCount z q) = ((z ((s_X3_errorIndex q).toNatClampNeg)), z) := by rw [s_X3_errorCount, if_neg c_1, if_pos c_2]
      exact k_iret S G hr hlk dX3_errorCount_28 (by first | (rw [es]; done) | (rw [es]; rfl) | (simp only [es]; done) | (simp only [es]; rfl)) (by first | (rw [es]; done) | (rw [es]; rfl) | (simp only [es]; done) | (simp only [es]; rfl))
    · skip
      refine lv_aload_n hx hb dX3_errorCount_12 rfl (lv_at hl 0 rfl) ?_
      refine lv_bipush (v := (-2)) hx hb dX3_errorCount_13 (by decide) ?_
      refine k_callV (n := 1) (As := [.int (-2)]) (rest := []) (st1 := [.int (-2)]) (ws1 := ((x, .inr (3, [.ref (a 0), .ref sv, .ref tl, .ref er, .int sc])) :: (er, .inl (cI, 3, .inl (upd z 0 ((z 0) + 1)))) :: stW cI a r e ([]))) S G (c_X3_refuse_2 l D cI cS (a 0) x sv tl er sc z) gX3_errorCount_X3_refuse rfl (by decide +kernel) ⟨⟨rfl, rfl⟩, Nat.le_of_ble_eq_true rfl, Nat.le_of_ble_eq_true rfl⟩ [0, 1] (by decide) rfl [x, er] rfl rfl 0 rfl rfl rfl hl.1 rfl (Nat.le_of_ble_eq_true rfl) ⟨Nat.zero_le _, Nat.zero_le _⟩ dX3_errorCount_15 rfl rfl (fun H locs G => ?_)
      have es : (s_X3_errorCount z q) = ((-2), (upd z 0 ((z 0) + 1))) := by rw [s_X3_errorCount, if_neg c_1, if_neg c_2]
      exact k_iret S G hr hlk dX3_errorCount_18 (by first | (rw [es]; done) | (rw [es]; rfl) | (simp only [es]; done) | (simp only [es]; rfl)) (by first | (rw [es]; done) | (rw [es]; rfl) | (simp only [es]; done) | (simp only [es]; rfl))
def s_X3_digest (sc : Int32) (z : Nat → Int32) (r : Nat → Int32) (e : Nat → Nat → Int32) : Int64 := ((31 * (s_X0_addToHash r e ((31 * ((31 * ((31 * 2657) + (z 0).toInt64)) + (z 1).toInt64)) + (z 2).toInt64))) + sc.toInt64)
set_option maxHeartbeats 4000000 in
set_option maxRecDepth 100000 in
theorem c_X3_digest (l : Launch) (D : va_G) (cI cS : ClassId) (x : Nat) (sv : Nat) (tl : Nat) (er : Nat) (sc : Int32) (z : Nat → Int32) (a : Nat → Nat) (r : Nat → Int32) (e : Nat → Nat → Int32) (hcn : cnOk (r 14)) : Ct l yX3_digest wsX3_digest ({ frames := 6, cells := 0, slots := 0, locals := 134 }) D (tyL cI cS) [.ref x] ((x, .inr (3, [.ref (a 0), .ref sv, .ref tl, .ref er, .int sc])) :: (er, .inl (cI, 3, .inl z)) :: stW cI a r e ([])) (some (.long (s_X3_digest sc z r e))) ((x, .inr (3, [.ref (a 0), .ref sv, .ref tl, .ref er, .int sc])) :: (er, .inl (cI, 3, .inl z)) :: stW cI a r e ([])) := by
  refine Ct.of (cc := cX3_digest) (maxL := 4) (ret := (some .long)) (by decide) rfl (Nat.le_of_ble_eq_true rfl) ?_
  intro p ev s m args below meth c A ls S hr hlk G hl
  have hx := S.1
  have hb := S.2.1
  have hown : s.vm.findClass RX3 = some m.cls := S.2.2.2.1
  have hts := S.2.2.2.2
  have hl : lv_has ls 4 [(0, .ref x)] := hl
  have hiX3 : ∀ w ∈ wsX30, w ∈ wsX3_digest := by decide +kernel
  have hf10 := hts (.fieldLink RX3 10 "StrikingWork" "now" "LStrikingWork$State;") (by decide +kernel)
  have hf29 := hts (.fieldLink RX3 29 "StrikingWork" "errors" "[I") (by decide +kernel)
  have hf33 := hts (.fieldLink RX3 33 "StrikingWork" "savedCount" "I") (by decide +kernel)
  have hk160 := hts (.constantLong RX3 160 2657) (by decide +kernel)
  have hk162 := hts (.constantLong RX3 162 31) (by decide +kernel)
  refine lv_ldc2 (v := 2657) hx hb hown hk160 dX3_digest_0 ?_
  refine lv_lstore_n (lv' := [(1, .long 2657), (0, .ref x)]) hx hb dX3_digest_3 rfl hl (by decide) rfl (fun ls hl => ?_)
  refine lv_iconst (v := 0) hx hb dX3_digest_4 (by decide) ?_
  refine lv_istore_n (lv' := [(3, .int 0), (1, .long 2657), (0, .ref x)]) hx hb dX3_digest_5 rfl hl (by decide) rfl (fun ls hl => ?_)
  refine lv_iload_n hx hb dX3_digest_6 rfl (lv_at hl 0 rfl) ?_
  refine lv_iconst (v := 3) hx hb dX3_digest_7 (by decide) ?_
  refine lv_icmp_ge (tgt := 31) hx hb dX3_digest_8 (by decide) (fun c_1 => absurd c_1 (by decide)) (fun c_1 => ?_)
  refine lv_ldc2 (v := 31) hx hb hown hk162 dX3_digest_11 ?_
  refine lv_lload_n hx hb dX3_digest_14 rfl (lv_at hl 1 rfl) ?_
  refine lv_lmul hx hb dX3_digest_15 ?_
  refine lv_aload_n hx hb dX3_digest_16 rfl (lv_at hl 2 rfl) ?_
  refine k_get (v := .ref er) S G 0 rfl rfl hiX3 3 (by decide) hf29 rfl dX3_digest_17 ?_
  refine lv_iload_n hx hb dX3_digest_20 rfl (lv_at hl 0 rfl) ?_
  refine k_iald (x := (z 0)) S G 1 0 rfl rfl (by unfold vp_in; decide) rfl dX3_digest_21 ?_
  refine lv_i2l (v := (z 0).toInt64) hx hb dX3_digest_22 rfl ?_
  refine lv_ladd hx hb dX3_digest_23 ?_
  refine lv_lstore_n (lv' := [(1, .long ((31 * 2657) + (z 0).toInt64)), (3, .int 0), (0, .ref x)]) hx hb dX3_digest_24 rfl hl (by decide) rfl (fun ls hl => ?_)
  refine lv_iinc (v := 1) (lv' := [(3, .int 1), (1, .long ((31 * 2657) + (z 0).toInt64)), (0, .ref x)]) hx hb dX3_digest_25 hl (k := 1) rfl (by decide) (by decide) rfl (fun ls hl => ?_)
  refine lv_goto (tgt := 6) hx hb dX3_digest_28 (by decide) ?_
  refine lv_iload_n hx hb dX3_digest_6 rfl (lv_at hl 0 rfl) ?_
  refine lv_iconst (v := 3) hx hb dX3_digest_7 (by decide) ?_
  refine lv_icmp_ge (tgt := 31) hx hb dX3_digest_8 (by decide) (fun c_2 => absurd c_2 (by decide)) (fun c_2 => ?_)
  refine lv_ldc2 (v := 31) hx hb hown hk162 dX3_digest_11 ?_
  refine lv_lload_n hx hb dX3_digest_14 rfl (lv_at hl 1 rfl) ?_
  refine lv_lmul hx hb dX3_digest_15 ?_
  refine lv_aload_n hx hb dX3_digest_16 rfl (lv_at hl 2 rfl) ?_
  refine k_get (v := .ref er) S G 0 rfl rfl hiX3 3 (by decide) hf29 rfl dX3_digest_17 ?_
  refine lv_iload_n hx hb dX3_digest_20 rfl (lv_at hl 0 rfl) ?_
  refine k_iald (x := (z 1)) S G 1 0 rfl rfl (by unfold vp_in; decide) rfl dX3_digest_21 ?_
  refine lv_i2l (v := (z 1).toInt64) hx hb dX3_digest_22 rfl ?_
  refine lv_ladd hx hb dX3_digest_23 ?_
  refine lv_lstore_n (lv' := [(1, .long ((31 * ((31 * 2657) + (z 0).toInt64)) + (z 1).toInt64)), (3, .int 1), (0, .ref x)]) hx hb dX3_digest_24 rfl hl (by decide) rfl (fun ls hl => ?_)
  refine lv_iinc (v := 2) (lv' := [(3, .int 2), (1, .long ((31 * ((31 * 2657) + (z 0).toInt64)) + (z 1).toInt64)), (0, .ref x)]) hx hb dX3_digest_25 hl (k := 1) rfl (by decide) (by decide) rfl (fun ls hl => ?_)
  refine lv_goto (tgt := 6) hx hb dX3_digest_28 (by decide) ?_
  refine lv_iload_n hx hb dX3_digest_6 rfl (lv_at hl 0 rfl) ?_
  refine lv_iconst (v := 3) hx hb dX3_digest_7 (by decide) ?_
  refine lv_icmp_ge (tgt := 31) hx hb dX3_digest_8 (by decide) (fun c_3 => absurd c_3 (by decide)) (fun c_3 => ?_)
  refine lv_ldc2 (v := 31) hx hb hown hk162 dX3_digest_11 ?_
  refine lv_lload_n hx hb dX3_digest_14 rfl (lv_at hl 1 rfl) ?_
  refine lv_lmul hx hb dX3_digest_15 ?_
  refine lv_aload_n hx hb dX3_digest_16 rfl (lv_at hl 2 rfl) ?_
  refine k_get (v := .ref er) S G 0 rfl rfl hiX3 3 (by decide) hf29 rfl dX3_digest_17 ?_
  refine lv_iload_n hx hb dX3_digest_20 rfl (lv_at hl 0 rfl) ?_
  refine k_iald (x := (z 2)) S G 1 0 rfl rfl (by unfold vp_in; decide) rfl dX3_digest_21 ?_
  refine lv_i2l (v := (z 2).toInt64) hx hb dX3_digest_22 rfl ?_
  refine lv_ladd hx hb dX3_digest_23 ?_
  refine lv_lstore_n (lv' := [(1, .long ((31 * ((31 * ((31 * 2657) + (z 0).toInt64)) + (z 1).toInt64)) + (z 2).toInt64)), (3, .int 2), (0, .ref x)]) hx hb dX3_digest_24 rfl hl (by decide) rfl (fun ls hl => ?_)
  refine lv_iinc (v := 3) (lv' := [(3, .int 3), (1, .long ((31 * ((31 * ((31 * 2657) + (z 0).toInt64)) + (z 1).toInt64)) + (z 2).toInt64)), (0, .ref x)]) hx hb dX3_digest_25 hl (k := 1) rfl (by decide) (by decide) rfl (fun ls hl => ?_)
  refine lv_goto (tgt := 6) hx hb dX3_digest_28 (by decide) ?_
  refine lv_iload_n hx hb dX3_digest_6 rfl (lv_at hl 0 rfl) ?_
  refine lv_iconst (v := 3) hx hb dX3_digest_7 (by decide) ?_
  refine lv_icmp_ge (tgt := 31) hx hb dX3_digest_8 (by decide) (fun c_4 => ?_) (fun c_4 => absurd c_4 (by decide))
  refine lv_aload_n hx hb dX3_digest_31 rfl (lv_at hl 2 rfl) ?_
  refine k_get (v := .ref (a 0)) S G 0 rfl rfl hiX3 0 (by decide) hf10 rfl dX3_digest_32 ?_
  refine lv_lload_n hx hb dX3_digest_35 rfl (lv_at hl 1 rfl) ?_
  refine k_callV (n := 1) (As := [.long ((31 * ((31 * ((31 * 2657) + (z 0).toInt64)) + (z 1).toInt64)) + (z 2).toInt64)]) (rest := []) (st1 := [.long (s_X0_addToHash r e ((31 * ((31 * ((31 * 2657) + (z 0).toInt64)) + (z 1).toInt64)) + (z 2).toInt64))]) (ws1 := ((x, .inr (3, [.ref (a 0), .ref sv, .ref tl, .ref er, .int sc])) :: (er, .inl (cI, 3, .inl z)) :: stW cI a r e ([]))) S G (c_X0_addToHash l D cI cS a r e ((31 * ((31 * ((31 * 2657) + (z 0).toInt64)) + (z 1).toInt64)) + (z 2).toInt64) hcn) gX3_digest_X0_addToHash rfl (by decide +kernel) ⟨⟨rfl, rfl⟩, Nat.le_of_ble_eq_true rfl, Nat.le_of_ble_eq_true rfl⟩ [2, 3, 4, 5, 6, 7, 8] (by decide) rfl [(a 0), (a 1), (a 2), (a 3), (a 4), (a 5), (a 6)] rfl rfl 2 rfl rfl rfl hl.1 rfl (Nat.le_of_ble_eq_true rfl) ⟨Nat.zero_le _, Nat.zero_le _⟩ dX3_digest_36 rfl rfl (fun H locs G => ?_)
  refine lv_lstore_n (lv' := [(1, .long (s_X0_addToHash r e ((31 * ((31 * ((31 * 2657) + (z 0).toInt64)) + (z 1).toInt64)) + (z 2).toInt64))), (3, .int 3), (0, .ref x)]) hx hb dX3_digest_39 rfl hl (by decide) rfl (fun ls hl => ?_)
  refine lv_ldc2 (v := 31) hx hb hown hk162 dX3_digest_40 ?_
  refine lv_lload_n hx hb dX3_digest_43 rfl (lv_at hl 0 rfl) ?_
  refine lv_lmul hx hb dX3_digest_44 ?_
  refine lv_aload_n hx hb dX3_digest_45 rfl (lv_at hl 2 rfl) ?_
  refine k_get (v := .int sc) S G 0 rfl rfl hiX3 4 (by decide) hf33 rfl dX3_digest_46 ?_
  refine lv_i2l (v := sc.toInt64) hx hb dX3_digest_49 rfl ?_
  refine lv_ladd hx hb dX3_digest_50 ?_
  have es : (s_X3_digest sc z r e) = ((31 * (s_X0_addToHash r e ((31 * ((31 * ((31 * 2657) + (z 0).toInt64)) + (z 1).toInt64)) + (z 2).toInt64))) + sc.toInt64) := rfl
  exact k_lret S G hr hlk dX3_digest_51 (by first | (rw [es]; done) | (rw [es]; rfl) | (simp only [es]; done) | (simp only [es]; rfl)) rfl
def s_X3_release_h (r : Nat → Int32) (e : Nat → Nat → Int32) (du : Int32) (lf : Int32) : Int32 × (Nat → Int32) × (Nat → Nat → Int32) := (if (s_X2_releaseWith 0 (r 4) (r 5) (r 6) (r 8) du).1 = 0 then (0, (upd (upd (upd r 5 (s_X2_releaseWith 0 (r 4) (r 5) (r 6) (r 8) du).2.1) 6 (s_X2_releaseWith 0 (r 4) (r 5) (r 6) (r 8) du).2.2.1) 8 (s_X2_releaseWith 0 (r 4) (r 5) (r 6) (r 8) du).2.2.2), e) else (if lf = 0 then ((s_X2_releaseWith 0 (r 4) (r 5) (r 6) (r 8) du).1, (upd (upd (upd (upd (upd r 5 (s_X2_releaseWith 0 (r 4) (r 5) (r 6) (r 8) du).2.1) 6 (s_X2_releaseWith 0 (r 4) (r 5) (r 6) (r 8) du).2.2.1) 7 ((r 7) + (s_X2_releaseWith 0 (r 4) (r 5) (r 6) (r 8) du).1)) 8 (s_X2_releaseWith 0 (r 4) (r 5) (r 6) (r 8) du).2.2.2) 14 (if 6 < ((r 14) + 1) then 6 else ((r 14) + 1))), (e3 (shf (r 0) (e 0)) (shf 0 (e 1)) (shf (s_X2_releaseWith 0 (r 4) (r 5) (r 6) (r 8) du).1 (e 2)))) else (0, (upd (upd (upd (upd r 5 (s_X2_releaseWith 0 (r 4) (r 5) (r 6) (r 8) du).2.1) 6 (s_X2_releaseWith 0 (r 4) (r 5) (r 6) (r 8) du).2.2.1) 8 (s_X2_releaseWith 0 (r 4) (r 5) (r 6) (r 8) du).2.2.2) 14 (if 6 < ((r 14) + 1) then 6 else ((r 14) + 1))), (e3 (shf (r 0) (e 0)) (shf 0 (e 1)) (shf (-(s_X2_releaseWith 0 (r 4) (r 5) (r 6) (r 8) du).1) (e 2))))))
set_option maxHeartbeats 4000000 in
set_option maxRecDepth 100000 in
theorem c_X3_release_h (l : Launch) (D : va_G) (cI cS : ClassId) (x : Nat) (sv : Nat) (tl : Nat) (er : Nat) (sc : Int32) (z : Nat → Int32) (a : Nat → Nat) (r : Nat → Int32) (e : Nat → Nat → Int32) (du : Int32) (lf : Int32) : Ct l yX3_release wsX3_release ({ frames := 3, cells := 0, slots := 0, locals := 64 }) D (tyL cI cS) [.ref x, .ref (a 1), .int du, .int lf] ((x, .inr (3, [.ref (a 0), .ref sv, .ref tl, .ref er, .int sc])) :: (er, .inl (cI, 3, .inl z)) :: stW cI a r e ([])) (some (.int ((s_X3_release_h r e du lf).1))) ((x, .inr (3, [.ref (a 0), .ref sv, .ref tl, .ref er, .int sc])) :: (er, .inl (cI, 3, .inl z)) :: stW cI a ((s_X3_release_h r e du lf).2.1) ((s_X3_release_h r e du lf).2.2) ([])) := by
  refine Ct.of (cc := cX3_release) (maxL := 5) (ret := (some .int)) (by decide) rfl (Nat.le_of_ble_eq_true rfl) ?_
  intro p ev s m args below meth c A ls S hr hlk G hl
  have hx := S.1
  have hb := S.2.1
  have hown : s.vm.findClass RX3 = some m.cls := S.2.2.2.1
  have hts := S.2.2.2.2
  have hl : lv_has ls 5 [(0, .ref x), (1, .ref (a 1)), (2, .int du), (3, .int lf)] := hl
  have hiX0 : ∀ w ∈ wsX00, w ∈ wsX3_release := by decide +kernel
  have hiX2 : ∀ w ∈ wsX20, w ∈ wsX3_release := by decide +kernel
  have hiX3 : ∀ w ∈ wsX30, w ∈ wsX3_release := by decide +kernel
  have hf10 := hts (.fieldLink RX3 10 "StrikingWork" "now" "LStrikingWork$State;") (by decide +kernel)
  have hf83 := hts (.fieldLink RX3 83 "StrikingWork$State" "minute" "I") (by decide +kernel)
  have hf130 := hts (.fieldLink RX3 130 "StrikingWork$Train" "sounded" "I") (by decide +kernel)
  have hf136 := hts (.fieldLink RX3 136 "StrikingWork$State" "strikes" "LStrikingWork$Strikes;") (by decide +kernel)
  have hf177 := hts (.fieldLink RX3 177 "StrikingWork$Train" "number" "I") (by decide +kernel)
  refine lv_aload_n hx hb dX3_release_0 rfl (lv_at hl 1 rfl) ?_
  refine lv_iload_n hx hb dX3_release_1 rfl (lv_at hl 2 rfl) ?_
  refine k_callV (n := 1) (As := [.int du]) (rest := []) (st1 := [.int ((s_X2_releaseWith 0 (r 4) (r 5) (r 6) (r 8) du).1)]) (ws1 := ((x, .inr (3, [.ref (a 0), .ref sv, .ref tl, .ref er, .int sc])) :: (er, .inl (cI, 3, .inl z)) :: stW cI a (upd (upd (upd r 5 ((s_X2_releaseWith 0 (r 4) (r 5) (r 6) (r 8) du).2.1)) 6 ((s_X2_releaseWith 0 (r 4) (r 5) (r 6) (r 8) du).2.2.1)) 8 ((s_X2_releaseWith 0 (r 4) (r 5) (r 6) (r 8) du).2.2.2)) e ([]))) S G (c_X2_releaseWith l D cI cS (a 1) 0 (r 4) (r 5) (r 6) (r 7) (r 8) du) gX3_release_X2_releaseWith rfl (by decide +kernel) ⟨⟨rfl, rfl⟩, Nat.le_of_ble_eq_true rfl, Nat.le_of_ble_eq_true rfl⟩ [3] (by decide) rfl [(a 1)] rfl rfl 3 rfl rfl rfl hl.1 rfl (Nat.le_of_ble_eq_true rfl) ⟨Nat.zero_le _, Nat.zero_le _⟩ dX3_release_2 rfl rfl (fun H locs G => ?_)
  generalize hu1 : (s_X2_releaseWith 0 (r 4) (r 5) (r 6) (r 8) du) = u1 at G ⊢
  refine lv_istore (lv' := [(4, .int u1.1), (0, .ref x), (1, .ref (a 1)), (2, .int du), (3, .int lf)]) hx hb dX3_release_5 hl (by decide) rfl (fun ls hl => ?_)
  refine lv_iload hx hb dX3_release_7 (lv_at hl 0 rfl) ?_
  refine lv_if_ne (tgt := 14) hx hb dX3_release_9 (by decide) (fun c_1 => ?_) (fun c_1 => ?_)
  · skip
    refine lv_aload_n hx hb dX3_release_14 rfl (lv_at hl 1 rfl) ?_
    refine k_get (v := .ref (a 0)) S G 0 rfl rfl hiX3 0 (by decide) hf10 rfl dX3_release_15 ?_
    refine k_get (v := .ref (a 3)) S G 2 rfl rfl hiX0 2 (by decide) hf136 rfl dX3_release_18 ?_
    refine lv_aload_n hx hb dX3_release_21 rfl (lv_at hl 1 rfl) ?_
    refine k_get (v := .ref (a 0)) S G 0 rfl rfl hiX3 0 (by decide) hf10 rfl dX3_release_22 ?_
    refine k_get (v := .int (r 0)) S G 2 rfl rfl hiX0 3 (by decide) hf83 rfl dX3_release_25 ?_
    refine lv_aload_n hx hb dX3_release_28 rfl (lv_at hl 2 rfl) ?_
    refine k_get (v := .int 0) S G 3 rfl rfl hiX2 0 (by decide) hf177 rfl dX3_release_29 ?_
    refine lv_iload_n hx hb dX3_release_32 rfl (lv_at hl 4 rfl) ?_
    refine lv_if_eq (tgt := 42) hx hb dX3_release_33 (by decide) (fun c_2 => ?_) (fun c_2 => ?_)
    · skip
      refine lv_iload hx hb dX3_release_42 (lv_at hl 0 rfl) ?_
      refine k_callV (n := 3) (As := [.int (r 0), .int 0, .int u1.1]) (rest := []) (st1 := []) (ws1 := ((x, .inr (3, [.ref (a 0), .ref sv, .ref tl, .ref er, .int sc])) :: (er, .inl (cI, 3, .inl z)) :: stW cI a (upd (upd (upd (upd r 5 u1.2.1) 6 u1.2.2.1) 8 u1.2.2.2) 14 (if 6 < ((r 14) + 1) then 6 else ((r 14) + 1))) (e3 (shf (r 0) (e 0)) (shf 0 (e 1)) (shf u1.1 (e 2))) ([]))) S G (c_X1_put l D cI cS (a 3) (a 4) (a 5) (a 6) (r 14) (e 0) (e 1) (e 2) (r 0) 0 u1.1) gX3_release_X1_put rfl (by decide +kernel) ⟨⟨rfl, rfl⟩, Nat.le_of_ble_eq_true rfl, Nat.le_of_ble_eq_true rfl⟩ [5, 6, 7, 8] (by decide) rfl [(a 3), (a 4), (a 5), (a 6)] rfl rfl 5 rfl rfl rfl hl.1 rfl (Nat.le_of_ble_eq_true rfl) ⟨Nat.zero_le _, Nat.zero_le _⟩ dX3_release_44 rfl rfl (fun H locs G => ?_)
      refine lv_iload_n hx hb dX3_release_47 rfl (lv_at hl 4 rfl) ?_
      refine lv_if_eq (tgt := 53) hx hb dX3_release_48 (by decide) (fun c_3 => ?_) (fun c_3 => absurd c_2 c_3)
      refine lv_aload_n hx hb dX3_release_53 rfl (lv_at hl 2 rfl) ?_
      refine lv_dup hx hb dX3_release_54 rfl ?_
      refine k_get (v := .int (r 7)) S G 3 rfl rfl hiX2 4 (by decide) hf130 rfl dX3_release_55 ?_
      refine lv_iload hx hb dX3_release_58 (lv_at hl 0 rfl) ?_
      refine lv_iadd hx hb dX3_release_60 ?_
      refine k_put (ws1 := ((x, .inr (3, [.ref (a 0), .ref sv, .ref tl, .ref er, .int sc])) :: (er, .inl (cI, 3, .inl z)) :: stW cI a (upd (upd (upd (upd (upd r 5 u1.2.1) 6 u1.2.2.1) 7 ((r 7) + u1.1)) 8 u1.2.2.2) 14 (if 6 < ((r 14) + 1) then 6 else ((r 14) + 1))) (e3 (shf (r 0) (e 0)) (shf 0 (e 1)) (shf u1.1 (e 2))) ([]))) S G 3 rfl rfl hiX2 tyX2 tyX2_ok nmX2 4 (by decide) hf130 rfl rfl rfl (Nat.le_of_ble_eq_true rfl) dX3_release_61 rfl (fun H locs G => ?_)
      refine lv_iload hx hb dX3_release_64 (lv_at hl 0 rfl) ?_
      have es : (s_X3_release_h r e du lf) = (u1.1, (upd (upd (upd (upd (upd r 5 u1.2.1) 6 u1.2.2.1) 7 ((r 7) + u1.1)) 8 u1.2.2.2) 14 (if 6 < ((r 14) + 1) then 6 else ((r 14) + 1))), (e3 (shf (r 0) (e 0)) (shf 0 (e 1)) (shf u1.1 (e 2)))) := by rw [s_X3_release_h, hu1, if_neg c_1, if_pos c_2]
      exact k_iret S G hr hlk dX3_release_66 (by first | (rw [es]; done) | (rw [es]; rfl) | (simp only [es]; done) | (simp only [es]; rfl)) (by first | (rw [es]; done) | (rw [es]; rfl) | (simp only [es]; done) | (simp only [es]; rfl))
    · skip
      refine lv_iload hx hb dX3_release_36 (lv_at hl 0 rfl) ?_
      refine lv_ineg hx hb dX3_release_38 ?_
      refine lv_goto (tgt := 44) hx hb dX3_release_39 (by decide) ?_
      refine k_callV (n := 3) (As := [.int (r 0), .int 0, .int (-u1.1)]) (rest := []) (st1 := []) (ws1 := ((x, .inr (3, [.ref (a 0), .ref sv, .ref tl, .ref er, .int sc])) :: (er, .inl (cI, 3, .inl z)) :: stW cI a (upd (upd (upd (upd r 5 u1.2.1) 6 u1.2.2.1) 8 u1.2.2.2) 14 (if 6 < ((r 14) + 1) then 6 else ((r 14) + 1))) (e3 (shf (r 0) (e 0)) (shf 0 (e 1)) (shf (-u1.1) (e 2))) ([]))) S G (c_X1_put l D cI cS (a 3) (a 4) (a 5) (a 6) (r 14) (e 0) (e 1) (e 2) (r 0) 0 (-u1.1)) gX3_release_X1_put rfl (by decide +kernel) ⟨⟨rfl, rfl⟩, Nat.le_of_ble_eq_true rfl, Nat.le_of_ble_eq_true rfl⟩ [5, 6, 7, 8] (by decide) rfl [(a 3), (a 4), (a 5), (a 6)] rfl rfl 5 rfl rfl rfl hl.1 rfl (Nat.le_of_ble_eq_true rfl) ⟨Nat.zero_le _, Nat.zero_le _⟩ dX3_release_44 rfl rfl (fun H locs G => ?_)
      refine lv_iload_n hx hb dX3_release_47 rfl (lv_at hl 4 rfl) ?_
      refine lv_if_eq (tgt := 53) hx hb dX3_release_48 (by decide) (fun c_4 => absurd c_4 c_2) (fun c_4 => ?_)
      refine lv_iconst (v := 0) hx hb dX3_release_51 (by decide) ?_
      have es : (s_X3_release_h r e du lf) = (0, (upd (upd (upd (upd r 5 u1.2.1) 6 u1.2.2.1) 8 u1.2.2.2) 14 (if 6 < ((r 14) + 1) then 6 else ((r 14) + 1))), (e3 (shf (r 0) (e 0)) (shf 0 (e 1)) (shf (-u1.1) (e 2)))) := by rw [s_X3_release_h, hu1, if_neg c_1, if_neg c_2]
      exact k_iret S G hr hlk dX3_release_52 (by first | (rw [es]; done) | (rw [es]; rfl) | (simp only [es]; done) | (simp only [es]; rfl)) (by first | (rw [es]; done) | (rw [es]; rfl) | (simp only [es]; done) | (simp only [es]; rfl))
  · skip
    refine lv_iconst (v := 0) hx hb dX3_release_12 (by decide) ?_
    have es : (s_X3_release_h r e du lf) = (0, (upd (upd (upd r 5 u1.2.1) 6 u1.2.2.1) 8 u1.2.2.2), e) := by rw [s_X3_release_h, hu1, if_pos c_1]
    exact k_iret S G hr hlk dX3_release_13 (by first | (rw [es]; done) | (rw [es]; rfl) | (simp only [es]; done) | (simp only [es]; rfl)) (by first | (rw [es]; done) | (rw [es]; rfl) | (simp only [es]; done) | (simp only [es]; rfl))
def s_X3_release_q (r : Nat → Int32) (e : Nat → Nat → Int32) (du : Int32) (lf : Int32) : Int32 × (Nat → Int32) × (Nat → Nat → Int32) := (if (s_X2_releaseWith 1 (r 9) (r 10) (r 11) (r 13) du).1 = 0 then (0, (upd (upd (upd r 10 (s_X2_releaseWith 1 (r 9) (r 10) (r 11) (r 13) du).2.1) 11 (s_X2_releaseWith 1 (r 9) (r 10) (r 11) (r 13) du).2.2.1) 13 (s_X2_releaseWith 1 (r 9) (r 10) (r 11) (r 13) du).2.2.2), e) else (if lf = 0 then ((s_X2_releaseWith 1 (r 9) (r 10) (r 11) (r 13) du).1, (upd (upd (upd (upd (upd r 10 (s_X2_releaseWith 1 (r 9) (r 10) (r 11) (r 13) du).2.1) 11 (s_X2_releaseWith 1 (r 9) (r 10) (r 11) (r 13) du).2.2.1) 12 ((r 12) + (s_X2_releaseWith 1 (r 9) (r 10) (r 11) (r 13) du).1)) 13 (s_X2_releaseWith 1 (r 9) (r 10) (r 11) (r 13) du).2.2.2) 14 (if 6 < ((r 14) + 1) then 6 else ((r 14) + 1))), (e3 (shf (r 0) (e 0)) (shf 1 (e 1)) (shf (s_X2_releaseWith 1 (r 9) (r 10) (r 11) (r 13) du).1 (e 2)))) else (0, (upd (upd (upd (upd r 10 (s_X2_releaseWith 1 (r 9) (r 10) (r 11) (r 13) du).2.1) 11 (s_X2_releaseWith 1 (r 9) (r 10) (r 11) (r 13) du).2.2.1) 13 (s_X2_releaseWith 1 (r 9) (r 10) (r 11) (r 13) du).2.2.2) 14 (if 6 < ((r 14) + 1) then 6 else ((r 14) + 1))), (e3 (shf (r 0) (e 0)) (shf 1 (e 1)) (shf (-(s_X2_releaseWith 1 (r 9) (r 10) (r 11) (r 13) du).1) (e 2))))))
set_option maxHeartbeats 4000000 in
set_option maxRecDepth 100000 in
theorem c_X3_release_q (l : Launch) (D : va_G) (cI cS : ClassId) (x : Nat) (sv : Nat) (tl : Nat) (er : Nat) (sc : Int32) (z : Nat → Int32) (a : Nat → Nat) (r : Nat → Int32) (e : Nat → Nat → Int32) (du : Int32) (lf : Int32) : Ct l yX3_release wsX3_release ({ frames := 3, cells := 0, slots := 0, locals := 64 }) D (tyL cI cS) [.ref x, .ref (a 2), .int du, .int lf] ((x, .inr (3, [.ref (a 0), .ref sv, .ref tl, .ref er, .int sc])) :: (er, .inl (cI, 3, .inl z)) :: stW cI a r e ([])) (some (.int ((s_X3_release_q r e du lf).1))) ((x, .inr (3, [.ref (a 0), .ref sv, .ref tl, .ref er, .int sc])) :: (er, .inl (cI, 3, .inl z)) :: stW cI a ((s_X3_release_q r e du lf).2.1) ((s_X3_release_q r e du lf).2.2) ([])) := by
  refine Ct.of (cc := cX3_release) (maxL := 5) (ret := (some .int)) (by decide) rfl (Nat.le_of_ble_eq_true rfl) ?_
  intro p ev s m args below meth c A ls S hr hlk G hl
  have hx := S.1
  have hb := S.2.1
  have hown : s.vm.findClass RX3 = some m.cls := S.2.2.2.1
  have hts := S.2.2.2.2
  have hl : lv_has ls 5 [(0, .ref x), (1, .ref (a 2)), (2, .int du), (3, .int lf)] := hl
  have hiX0 : ∀ w ∈ wsX00, w ∈ wsX3_release := by decide +kernel
  have hiX2 : ∀ w ∈ wsX20, w ∈ wsX3_release := by decide +kernel
  have hiX3 : ∀ w ∈ wsX30, w ∈ wsX3_release := by decide +kernel
  have hf10 := hts (.fieldLink RX3 10 "StrikingWork" "now" "LStrikingWork$State;") (by decide +kernel)
  have hf83 := hts (.fieldLink RX3 83 "StrikingWork$State" "minute" "I") (by decide +kernel)
  have hf130 := hts (.fieldLink RX3 130 "StrikingWork$Train" "sounded" "I") (by decide +kernel)
  have hf136 := hts (.fieldLink RX3 136 "StrikingWork$State" "strikes" "LStrikingWork$Strikes;") (by decide +kernel)
  have hf177 := hts (.fieldLink RX3 177 "StrikingWork$Train" "number" "I") (by decide +kernel)
  refine lv_aload_n hx hb dX3_release_0 rfl (lv_at hl 1 rfl) ?_
  refine lv_iload_n hx hb dX3_release_1 rfl (lv_at hl 2 rfl) ?_
  refine k_callV (n := 1) (As := [.int du]) (rest := []) (st1 := [.int ((s_X2_releaseWith 1 (r 9) (r 10) (r 11) (r 13) du).1)]) (ws1 := ((x, .inr (3, [.ref (a 0), .ref sv, .ref tl, .ref er, .int sc])) :: (er, .inl (cI, 3, .inl z)) :: stW cI a (upd (upd (upd r 10 ((s_X2_releaseWith 1 (r 9) (r 10) (r 11) (r 13) du).2.1)) 11 ((s_X2_releaseWith 1 (r 9) (r 10) (r 11) (r 13) du).2.2.1)) 13 ((s_X2_releaseWith 1 (r 9) (r 10) (r 11) (r 13) du).2.2.2)) e ([]))) S G (c_X2_releaseWith l D cI cS (a 2) 1 (r 9) (r 10) (r 11) (r 12) (r 13) du) gX3_release_X2_releaseWith rfl (by decide +kernel) ⟨⟨rfl, rfl⟩, Nat.le_of_ble_eq_true rfl, Nat.le_of_ble_eq_true rfl⟩ [4] (by decide) rfl [(a 2)] rfl rfl 4 rfl rfl rfl hl.1 rfl (Nat.le_of_ble_eq_true rfl) ⟨Nat.zero_le _, Nat.zero_le _⟩ dX3_release_2 rfl rfl (fun H locs G => ?_)
  generalize hu1 : (s_X2_releaseWith 1 (r 9) (r 10) (r 11) (r 13) du) = u1 at G ⊢
  refine lv_istore (lv' := [(4, .int u1.1), (0, .ref x), (1, .ref (a 2)), (2, .int du), (3, .int lf)]) hx hb dX3_release_5 hl (by decide) rfl (fun ls hl => ?_)
  refine lv_iload hx hb dX3_release_7 (lv_at hl 0 rfl) ?_
  refine lv_if_ne (tgt := 14) hx hb dX3_release_9 (by decide) (fun c_1 => ?_) (fun c_1 => ?_)
  · skip
    refine lv_aload_n hx hb dX3_release_14 rfl (lv_at hl 1 rfl) ?_
    refine k_get (v := .ref (a 0)) S G 0 rfl rfl hiX3 0 (by decide) hf10 rfl dX3_release_15 ?_
    refine k_get (v := .ref (a 3)) S G 2 rfl rfl hiX0 2 (by decide) hf136 rfl dX3_release_18 ?_
    refine lv_aload_n hx hb dX3_release_21 rfl (lv_at hl 1 rfl) ?_
    refine k_get (v := .ref (a 0)) S G 0 rfl rfl hiX3 0 (by decide) hf10 rfl dX3_release_22 ?_
    refine k_get (v := .int (r 0)) S G 2 rfl rfl hiX0 3 (by decide) hf83 rfl dX3_release_25 ?_
    refine lv_aload_n hx hb dX3_release_28 rfl (lv_at hl 2 rfl) ?_
    refine k_get (v := .int 1) S G 4 rfl rfl hiX2 0 (by decide) hf177 rfl dX3_release_29 ?_
    refine lv_iload_n hx hb dX3_release_32 rfl (lv_at hl 4 rfl) ?_
    refine lv_if_eq (tgt := 42) hx hb dX3_release_33 (by decide) (fun c_2 => ?_) (fun c_2 => ?_)
    · skip
      refine lv_iload hx hb dX3_release_42 (lv_at hl 0 rfl) ?_
      refine k_callV (n := 3) (As := [.int (r 0), .int 1, .int u1.1]) (rest := []) (st1 := []) (ws1 := ((x, .inr (3, [.ref (a 0), .ref sv, .ref tl, .ref er, .int sc])) :: (er, .inl (cI, 3, .inl z)) :: stW cI a (upd (upd (upd (upd r 10 u1.2.1) 11 u1.2.2.1) 13 u1.2.2.2) 14 (if 6 < ((r 14) + 1) then 6 else ((r 14) + 1))) (e3 (shf (r 0) (e 0)) (shf 1 (e 1)) (shf u1.1 (e 2))) ([]))) S G (c_X1_put l D cI cS (a 3) (a 4) (a 5) (a 6) (r 14) (e 0) (e 1) (e 2) (r 0) 1 u1.1) gX3_release_X1_put rfl (by decide +kernel) ⟨⟨rfl, rfl⟩, Nat.le_of_ble_eq_true rfl, Nat.le_of_ble_eq_true rfl⟩ [5, 6, 7, 8] (by decide) rfl [(a 3), (a 4), (a 5), (a 6)] rfl rfl 5 rfl rfl rfl hl.1 rfl (Nat.le_of_ble_eq_true rfl) ⟨Nat.zero_le _, Nat.zero_le _⟩ dX3_release_44 rfl rfl (fun H locs G => ?_)
      refine lv_iload_n hx hb dX3_release_47 rfl (lv_at hl 4 rfl) ?_
      refine lv_if_eq (tgt := 53) hx hb dX3_release_48 (by decide) (fun c_3 => ?_) (fun c_3 => absurd c_2 c_3)
      refine lv_aload_n hx hb dX3_release_53 rfl (lv_at hl 2 rfl) ?_
      refine lv_dup hx hb dX3_release_54 rfl ?_
      refine k_get (v := .int (r 12)) S G 4 rfl rfl hiX2 4 (by decide) hf130 rfl dX3_release_55 ?_
      refine lv_iload hx hb dX3_release_58 (lv_at hl 0 rfl) ?_
      refine lv_iadd hx hb dX3_release_60 ?_
      refine k_put (ws1 := ((x, .inr (3, [.ref (a 0), .ref sv, .ref tl, .ref er, .int sc])) :: (er, .inl (cI, 3, .inl z)) :: stW cI a (upd (upd (upd (upd (upd r 10 u1.2.1) 11 u1.2.2.1) 12 ((r 12) + u1.1)) 13 u1.2.2.2) 14 (if 6 < ((r 14) + 1) then 6 else ((r 14) + 1))) (e3 (shf (r 0) (e 0)) (shf 1 (e 1)) (shf u1.1 (e 2))) ([]))) S G 4 rfl rfl hiX2 tyX2 tyX2_ok nmX2 4 (by decide) hf130 rfl rfl rfl (Nat.le_of_ble_eq_true rfl) dX3_release_61 rfl (fun H locs G => ?_)
      refine lv_iload hx hb dX3_release_64 (lv_at hl 0 rfl) ?_
      have es : (s_X3_release_q r e du lf) = (u1.1, (upd (upd (upd (upd (upd r 10 u1.2.1) 11 u1.2.2.1) 12 ((r 12) + u1.1)) 13 u1.2.2.2) 14 (if 6 < ((r 14) + 1) then 6 else ((r 14) + 1))), (e3 (shf (r 0) (e 0)) (shf 1 (e 1)) (shf u1.1 (e 2)))) := by rw [s_X3_release_q, hu1, if_neg c_1, if_pos c_2]
      exact k_iret S G hr hlk dX3_release_66 (by first | (rw [es]; done) | (rw [es]; rfl) | (simp only [es]; done) | (simp only [es]; rfl)) (by first | (rw [es]; done) | (rw [es]; rfl) | (simp only [es]; done) | (simp only [es]; rfl))
    · skip
      refine lv_iload hx hb dX3_release_36 (lv_at hl 0 rfl) ?_
      refine lv_ineg hx hb dX3_release_38 ?_
      refine lv_goto (tgt := 44) hx hb dX3_release_39 (by decide) ?_
      refine k_callV (n := 3) (As := [.int (r 0), .int 1, .int (-u1.1)]) (rest := []) (st1 := []) (ws1 := ((x, .inr (3, [.ref (a 0), .ref sv, .ref tl, .ref er, .int sc])) :: (er, .inl (cI, 3, .inl z)) :: stW cI a (upd (upd (upd (upd r 10 u1.2.1) 11 u1.2.2.1) 13 u1.2.2.2) 14 (if 6 < ((r 14) + 1) then 6 else ((r 14) + 1))) (e3 (shf (r 0) (e 0)) (shf 1 (e 1)) (shf (-u1.1) (e 2))) ([]))) S G (c_X1_put l D cI cS (a 3) (a 4) (a 5) (a 6) (r 14) (e 0) (e 1) (e 2) (r 0) 1 (-u1.1)) gX3_release_X1_put rfl (by decide +kernel) ⟨⟨rfl, rfl⟩, Nat.le_of_ble_eq_true rfl, Nat.le_of_ble_eq_true rfl⟩ [5, 6, 7, 8] (by decide) rfl [(a 3), (a 4), (a 5), (a 6)] rfl rfl 5 rfl rfl rfl hl.1 rfl (Nat.le_of_ble_eq_true rfl) ⟨Nat.zero_le _, Nat.zero_le _⟩ dX3_release_44 rfl rfl (fun H locs G => ?_)
      refine lv_iload_n hx hb dX3_release_47 rfl (lv_at hl 4 rfl) ?_
      refine lv_if_eq (tgt := 53) hx hb dX3_release_48 (by decide) (fun c_4 => absurd c_4 c_2) (fun c_4 => ?_)
      refine lv_iconst (v := 0) hx hb dX3_release_51 (by decide) ?_
      have es : (s_X3_release_q r e du lf) = (0, (upd (upd (upd (upd r 10 u1.2.1) 11 u1.2.2.1) 13 u1.2.2.2) 14 (if 6 < ((r 14) + 1) then 6 else ((r 14) + 1))), (e3 (shf (r 0) (e 0)) (shf 1 (e 1)) (shf (-u1.1) (e 2)))) := by rw [s_X3_release_q, hu1, if_neg c_1, if_neg c_2]
      exact k_iret S G hr hlk dX3_release_52 (by first | (rw [es]; done) | (rw [es]; rfl) | (simp only [es]; done) | (simp only [es]; rfl)) (by first | (rw [es]; done) | (rw [es]; rfl) | (simp only [es]; done) | (simp only [es]; rfl))
  · skip
    refine lv_iconst (v := 0) hx hb dX3_release_12 (by decide) ?_
    have es : (s_X3_release_q r e du lf) = (0, (upd (upd (upd r 10 u1.2.1) 11 u1.2.2.1) 13 u1.2.2.2), e) := by rw [s_X3_release_q, hu1, if_pos c_1]
    exact k_iret S G hr hlk dX3_release_13 (by first | (rw [es]; done) | (rw [es]; rfl) | (simp only [es]; done) | (simp only [es]; rfl)) (by first | (rw [es]; done) | (rw [es]; rfl) | (simp only [es]; done) | (simp only [es]; rfl))
