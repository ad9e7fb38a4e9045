set_option maxHeartbeats 4000000 in
set_option maxRecDepth 100000 in
theorem c_X0_trainOf_0 (l : Launch) (D : va_G) (cI cS : ClassId) (a : Nat → Nat) (r : Nat → Int32) (e : Nat → Nat → Int32) : Ct l yX0_trainOf wsX0_trainOf ({ frames := 0, cells := 0, slots := 0, locals := 0 }) D (tyL cI cS) [.ref (a 0), .int 0] (stW cI a r e ([])) (some (.ref (a 1))) (stW cI a r e ([])) := by
  refine Ct.of (cc := cX0_trainOf) (maxL := 2) (ret := (some (.object "StrikingWork$Train"))) (by decide) rfl (Nat.le_of_ble_eq_true rfl) ?_
  intro p ev s m args below meth c A ls S hr hlk G hl
  have hx := S.1
  have hb := S.2.1
  have hown : s.vm.findClass RX0 = some m.cls := S.2.2.2.1
  have hts := S.2.2.2.2
  have hl : lv_has ls 2 [(0, .ref (a 0)), (1, .int 0)] := hl
  have hiX0 : ∀ w ∈ wsX00, w ∈ wsX0_trainOf := by decide +kernel
  have hf14 := hts (.fieldLink RX0 14 "StrikingWork$State" "hours" "LStrikingWork$Train;") (by decide +kernel)
  refine lv_iload_n hx hb dX0_trainOf_0 rfl (lv_at hl 1 rfl) ?_
  refine lv_if_ne (tgt := 11) hx hb dX0_trainOf_1 (by decide) (fun c_1 => absurd c_1 (by decide)) (fun c_1 => ?_)
  refine lv_aload_n hx hb dX0_trainOf_4 rfl (lv_at hl 0 rfl) ?_
  refine k_get (v := .ref (a 1)) S G 0 rfl rfl hiX0 0 (by decide) hf14 rfl dX0_trainOf_5 ?_
  refine lv_goto (tgt := 15) hx hb dX0_trainOf_8 (by decide) ?_
  exact k_aret S G hr hlk dX0_trainOf_15 rfl rfl
set_option maxHeartbeats 4000000 in
set_option maxRecDepth 100000 in
theorem c_X0_trainOf_1 (l : Launch) (D : va_G) (cI cS : ClassId) (a : Nat → Nat) (r : Nat → Int32) (e : Nat → Nat → Int32) : Ct l yX0_trainOf wsX0_trainOf ({ frames := 0, cells := 0, slots := 0, locals := 0 }) D (tyL cI cS) [.ref (a 0), .int 1] (stW cI a r e ([])) (some (.ref (a 2))) (stW cI a r e ([])) := by
  refine Ct.of (cc := cX0_trainOf) (maxL := 2) (ret := (some (.object "StrikingWork$Train"))) (by decide) rfl (Nat.le_of_ble_eq_true rfl) ?_
  intro p ev s m args below meth c A ls S hr hlk G hl
  have hx := S.1
  have hb := S.2.1
  have hown : s.vm.findClass RX0 = some m.cls := S.2.2.2.1
  have hts := S.2.2.2.2
  have hl : lv_has ls 2 [(0, .ref (a 0)), (1, .int 1)] := hl
  have hiX0 : ∀ w ∈ wsX00, w ∈ wsX0_trainOf := by decide +kernel
  have hf20 := hts (.fieldLink RX0 20 "StrikingWork$State" "quarters" "LStrikingWork$Train;") (by decide +kernel)
  refine lv_iload_n hx hb dX0_trainOf_0 rfl (lv_at hl 1 rfl) ?_
  refine lv_if_ne (tgt := 11) hx hb dX0_trainOf_1 (by decide) (fun c_1 => ?_) (fun c_1 => absurd c_1 (by decide))
  refine lv_aload_n hx hb dX0_trainOf_11 rfl (lv_at hl 0 rfl) ?_
  refine k_get (v := .ref (a 2)) S G 0 rfl rfl hiX0 1 (by decide) hf20 rfl dX0_trainOf_12 ?_
  exact k_aret S G hr hlk dX0_trainOf_15 rfl rfl
def s_X0_hushesAt (r : Nat → Int32) (q : Int32) : Int32 := (if (r 1) = 0 then 0 else (if (r 3) ≤ (r 2) then (if (r 2) ≤ (r 3) then 0 else (if (r 2) ≤ q then 1 else (if (r 3) ≤ q then 0 else 1))) else (if q < (r 2) then 0 else (if (r 3) ≤ q then 0 else 1))))
set_option maxHeartbeats 4000000 in
set_option maxRecDepth 100000 in
theorem c_X0_hushesAt (l : Launch) (D : va_G) (cI cS : ClassId) (a : Nat → Nat) (r : Nat → Int32) (e : Nat → Nat → Int32) (q : Int32) : Ct l yX0_hushesAt wsX0_hushesAt ({ frames := 0, cells := 0, slots := 0, locals := 0 }) D (tyL cI cS) [.ref (a 0), .int q] (stW cI a r e ([])) (some (.int (s_X0_hushesAt r q))) (stW cI a r e ([])) := by
  refine Ct.of (cc := cX0_hushesAt) (maxL := 2) (ret := (some .boolean)) (by decide) rfl (Nat.le_of_ble_eq_true rfl) ?_
  intro p ev s m args below meth c A ls S hr hlk G hl
  have hx := S.1
  have hb := S.2.1
  have hown : s.vm.findClass RX0 = some m.cls := S.2.2.2.1
  have hts := S.2.2.2.2
  have hl : lv_has ls 2 [(0, .ref (a 0)), (1, .int q)] := hl
  have hiX0 : ∀ w ∈ wsX00, w ∈ wsX0_hushesAt := by decide +kernel
  have hf34 := hts (.fieldLink RX0 34 "StrikingWork$State" "silenceMode" "I") (by decide +kernel)
  have hf37 := hts (.fieldLink RX0 37 "StrikingWork$State" "silenceBegin" "I") (by decide +kernel)
  have hf40 := hts (.fieldLink RX0 40 "StrikingWork$State" "silenceEnd" "I") (by decide +kernel)
  refine lv_aload_n hx hb dX0_hushesAt_0 rfl (lv_at hl 0 rfl) ?_
  refine k_get (v := .int (r 1)) S G 0 rfl rfl hiX0 4 (by decide) hf34 rfl dX0_hushesAt_1 ?_
  refine lv_if_ne (tgt := 9) hx hb dX0_hushesAt_4 (by decide) (fun c_1 => ?_) (fun c_1 => ?_)
  · skip
    refine lv_aload_n hx hb dX0_hushesAt_9 rfl (lv_at hl 0 rfl) ?_
    refine k_get (v := .int (r 2)) S G 0 rfl rfl hiX0 5 (by decide) hf37 rfl dX0_hushesAt_10 ?_
    refine lv_aload_n hx hb dX0_hushesAt_13 rfl (lv_at hl 0 rfl) ?_
    refine k_get (v := .int (r 3)) S G 0 rfl rfl hiX0 6 (by decide) hf40 rfl dX0_hushesAt_14 ?_
    refine lv_icmp_ge (tgt := 42) hx hb dX0_hushesAt_17 (by decide) (fun c_2 => ?_) (fun c_2 => ?_)
    · skip
      refine lv_aload_n hx hb dX0_hushesAt_42 rfl (lv_at hl 0 rfl) ?_
      refine k_get (v := .int (r 2)) S G 0 rfl rfl hiX0 5 (by decide) hf37 rfl dX0_hushesAt_43 ?_
      refine lv_aload_n hx hb dX0_hushesAt_46 rfl (lv_at hl 0 rfl) ?_
      refine k_get (v := .int (r 3)) S G 0 rfl rfl hiX0 6 (by decide) hf40 rfl dX0_hushesAt_47 ?_
      refine lv_icmp_le (tgt := 73) hx hb dX0_hushesAt_50 (by decide) (fun c_3 => ?_) (fun c_3 => ?_)
      · skip
        refine lv_iconst (v := 0) hx hb dX0_hushesAt_73 (by decide) ?_
        have es : (s_X0_hushesAt r q) = 0 := by rw [s_X0_hushesAt, if_neg c_1, if_pos c_2, if_pos c_3]
        exact k_zret S G hr hlk dX0_hushesAt_74 (by decide) (by first | (rw [es]; done) | (rw [es]; rfl) | (simp only [es]; done) | (simp only [es]; rfl)) rfl
      · skip
        refine lv_iload_n hx hb dX0_hushesAt_53 rfl (lv_at hl 1 rfl) ?_
        refine lv_aload_n hx hb dX0_hushesAt_54 rfl (lv_at hl 0 rfl) ?_
        refine k_get (v := .int (r 2)) S G 0 rfl rfl hiX0 5 (by decide) hf37 rfl dX0_hushesAt_55 ?_
        refine lv_icmp_ge (tgt := 69) hx hb dX0_hushesAt_58 (by decide) (fun c_4 => ?_) (fun c_4 => ?_)
        · skip
          refine lv_iconst (v := 1) hx hb dX0_hushesAt_69 (by decide) ?_
          refine lv_goto (tgt := 74) hx hb dX0_hushesAt_70 (by decide) ?_
          have es : (s_X0_hushesAt r q) = 1 := by rw [s_X0_hushesAt, if_neg c_1, if_pos c_2, if_neg c_3, if_pos c_4]
          exact k_zret S G hr hlk dX0_hushesAt_74 (by decide) (by first | (rw [es]; done) | (rw [es]; rfl) | (simp only [es]; done) | (simp only [es]; rfl)) rfl
        · skip
          refine lv_iload_n hx hb dX0_hushesAt_61 rfl (lv_at hl 1 rfl) ?_
          refine lv_aload_n hx hb dX0_hushesAt_62 rfl (lv_at hl 0 rfl) ?_
          refine k_get (v := .int (r 3)) S G 0 rfl rfl hiX0 6 (by decide) hf40 rfl dX0_hushesAt_63 ?_
          refine lv_icmp_ge (tgt := 73) hx hb dX0_hushesAt_66 (by decide) (fun c_5 => ?_) (fun c_5 => ?_)
          · skip
            refine lv_iconst (v := 0) hx hb dX0_hushesAt_73 (by decide) ?_
            have es : (s_X0_hushesAt r q) = 0 := by rw [s_X0_hushesAt, if_neg c_1, if_pos c_2, if_neg c_3, if_neg c_4, if_pos c_5]
            exact k_zret S G hr hlk dX0_hushesAt_74 (by decide) (by first | (rw [es]; done) | (rw [es]; rfl) | (simp only [es]; done) | (simp only [es]; rfl)) rfl
          · skip
            refine lv_iconst (v := 1) hx hb dX0_hushesAt_69 (by decide) ?_
            refine lv_goto (tgt := 74) hx hb dX0_hushesAt_70 (by decide) ?_
            have es : (s_X0_hushesAt r q) = 1 := by rw [s_X0_hushesAt, if_neg c_1, if_pos c_2, if_neg c_3, if_neg c_4, if_neg c_5]
            exact k_zret S G hr hlk dX0_hushesAt_74 (by decide) (by first | (rw [es]; done) | (rw [es]; rfl) | (simp only [es]; done) | (simp only [es]; rfl)) rfl
    · skip
      refine lv_iload_n hx hb dX0_hushesAt_20 rfl (lv_at hl 1 rfl) ?_
      refine lv_aload_n hx hb dX0_hushesAt_21 rfl (lv_at hl 0 rfl) ?_
      refine k_get (v := .int (r 2)) S G 0 rfl rfl hiX0 5 (by decide) hf37 rfl dX0_hushesAt_22 ?_
      refine lv_icmp_lt (tgt := 40) hx hb dX0_hushesAt_25 (by decide) (fun c_6 => ?_) (fun c_6 => ?_)
      · skip
        refine lv_iconst (v := 0) hx hb dX0_hushesAt_40 (by decide) ?_
        have es : (s_X0_hushesAt r q) = 0 := by rw [s_X0_hushesAt, if_neg c_1, if_neg c_2, if_pos c_6]
        exact k_zret S G hr hlk dX0_hushesAt_41 (by decide) (by first | (rw [es]; done) | (rw [es]; rfl) | (simp only [es]; done) | (simp only [es]; rfl)) rfl
      · skip
        refine lv_iload_n hx hb dX0_hushesAt_28 rfl (lv_at hl 1 rfl) ?_
        refine lv_aload_n hx hb dX0_hushesAt_29 rfl (lv_at hl 0 rfl) ?_
        refine k_get (v := .int (r 3)) S G 0 rfl rfl hiX0 6 (by decide) hf40 rfl dX0_hushesAt_30 ?_
        refine lv_icmp_ge (tgt := 40) hx hb dX0_hushesAt_33 (by decide) (fun c_7 => ?_) (fun c_7 => ?_)
        · skip
          refine lv_iconst (v := 0) hx hb dX0_hushesAt_40 (by decide) ?_
          have es : (s_X0_hushesAt r q) = 0 := by rw [s_X0_hushesAt, if_neg c_1, if_neg c_2, if_neg c_6, if_pos c_7]
          exact k_zret S G hr hlk dX0_hushesAt_41 (by decide) (by first | (rw [es]; done) | (rw [es]; rfl) | (simp only [es]; done) | (simp only [es]; rfl)) rfl
        · skip
          refine lv_iconst (v := 1) hx hb dX0_hushesAt_36 (by decide) ?_
          refine lv_goto (tgt := 41) hx hb dX0_hushesAt_37 (by decide) ?_
          have es : (s_X0_hushesAt r q) = 1 := by rw [s_X0_hushesAt, if_neg c_1, if_neg c_2, if_neg c_6, if_neg c_7]
          exact k_zret S G hr hlk dX0_hushesAt_41 (by decide) (by first | (rw [es]; done) | (rw [es]; rfl) | (simp only [es]; done) | (simp only [es]; rfl)) rfl
  · skip
    refine lv_iconst (v := 0) hx hb dX0_hushesAt_7 (by decide) ?_
    have es : (s_X0_hushesAt r q) = 0 := by rw [s_X0_hushesAt, if_pos c_1]
    exact k_zret S G hr hlk dX0_hushesAt_8 (by decide) (by first | (rw [es]; done) | (rw [es]; rfl) | (simp only [es]; done) | (simp only [es]; rfl)) rfl
def s_X0_blocksAt (r : Nat → Int32) (q : Int32) : Int32 := (if (r 1) = 1 then (if (s_X0_hushesAt r q) = 0 then 0 else 1) else 0)
set_option maxHeartbeats 4000000 in
set_option maxRecDepth 100000 in
theorem c_X0_blocksAt (l : Launch) (D : va_G) (cI cS : ClassId) (a : Nat → Nat) (r : Nat → Int32) (e : Nat → Nat → Int32) (q : Int32) : Ct l yX0_blocksAt wsX0_blocksAt ({ frames := 1, cells := 0, slots := 0, locals := 21 }) D (tyL cI cS) [.ref (a 0), .int q] (stW cI a r e ([])) (some (.int (s_X0_blocksAt r q))) (stW cI a r e ([])) := by
  refine Ct.of (cc := cX0_blocksAt) (maxL := 2) (ret := (some .boolean)) (by decide) rfl (Nat.le_of_ble_eq_true rfl) ?_
  intro p ev s m args below meth c A ls S hr hlk G hl
  have hx := S.1
  have hb := S.2.1
  have hown : s.vm.findClass RX0 = some m.cls := S.2.2.2.1
  have hts := S.2.2.2.2
  have hl : lv_has ls 2 [(0, .ref (a 0)), (1, .int q)] := hl
  have hiX0 : ∀ w ∈ wsX00, w ∈ wsX0_blocksAt := by decide +kernel
  have hf34 := hts (.fieldLink RX0 34 "StrikingWork$State" "silenceMode" "I") (by decide +kernel)
  refine lv_aload_n hx hb dX0_blocksAt_0 rfl (lv_at hl 0 rfl) ?_
  refine k_get (v := .int (r 1)) S G 0 rfl rfl hiX0 4 (by decide) hf34 rfl dX0_blocksAt_1 ?_
  refine lv_iconst (v := 1) hx hb dX0_blocksAt_4 (by decide) ?_
  refine lv_icmp_ne (tgt := 20) hx hb dX0_blocksAt_5 (by decide) (fun c_1 => ?_) (fun c_1 => ?_)
  · skip
    refine lv_iconst (v := 0) hx hb dX0_blocksAt_20 (by decide) ?_
    have es : (s_X0_blocksAt r q) = 0 := by rw [s_X0_blocksAt, if_neg c_1]
    exact k_zret S G hr hlk dX0_blocksAt_21 (by decide) (by first | (rw [es]; done) | (rw [es]; rfl) | (simp only [es]; done) | (simp only [es]; rfl)) rfl
  · skip
    refine lv_aload_n hx hb dX0_blocksAt_8 rfl (lv_at hl 0 rfl) ?_
    refine lv_iload_n hx hb dX0_blocksAt_9 rfl (lv_at hl 1 rfl) ?_
    refine k_callV (n := 1) (As := [.int q]) (rest := []) (st1 := [.int (s_X0_hushesAt r q)]) (ws1 := (stW cI a r e ([]))) S G (c_X0_hushesAt l D cI cS a r e q) gX0_blocksAt_X0_hushesAt rfl (by decide +kernel) ⟨⟨rfl, rfl⟩, Nat.le_of_ble_eq_true rfl, Nat.le_of_ble_eq_true rfl⟩ [0, 1, 2, 3, 4, 5, 6] (by decide) rfl [(a 0), (a 1), (a 2), (a 3), (a 4), (a 5), (a 6)] rfl rfl 0 rfl rfl rfl hl.1 rfl (Nat.le_of_ble_eq_true rfl) ⟨Nat.zero_le _, Nat.zero_le _⟩ dX0_blocksAt_10 rfl rfl (fun H locs G => ?_)
    refine lv_if_eq (tgt := 20) hx hb dX0_blocksAt_13 (by decide) (fun c_2 => ?_) (fun c_2 => ?_)
    · skip
      refine lv_iconst (v := 0) hx hb dX0_blocksAt_20 (by decide) ?_
      have es : (s_X0_blocksAt r q) = 0 := by rw [s_X0_blocksAt, if_pos c_1, if_pos c_2]
      exact k_zret S G hr hlk dX0_blocksAt_21 (by decide) (by first | (rw [es]; done) | (rw [es]; rfl) | (simp only [es]; done) | (simp only [es]; rfl)) rfl
    · skip
      refine lv_iconst (v := 1) hx hb dX0_blocksAt_16 (by decide) ?_
      refine lv_goto (tgt := 21) hx hb dX0_blocksAt_17 (by decide) ?_
      have es : (s_X0_blocksAt r q) = 1 := by rw [s_X0_blocksAt, if_pos c_1, if_neg c_2]
      exact k_zret S G hr hlk dX0_blocksAt_21 (by decide) (by first | (rw [es]; done) | (rw [es]; rfl) | (simp only [es]; done) | (simp only [es]; rfl)) rfl
set_option maxHeartbeats 4000000 in
set_option maxRecDepth 100000 in
theorem c_X0_copyFrom (l : Launch) (D : va_G) (cI cS : ClassId) (a : Nat → Nat) (r : Nat → Int32) (e : Nat → Nat → Int32) (b : Nat → Nat) (r2 : Nat → Int32) (e2 : Nat → Nat → Int32) : Ct l yX0_copyFrom wsX0_copyFrom ({ frames := 1, cells := 0, slots := 0, locals := 22 }) D (tyL cI cS) [.ref (a 0), .ref (b 0)] (stW cI a r e (stW cI b r2 e2 ([]))) none (stW cI a r2 e2 (stW cI b r2 e2 ([]))) := by
  refine Ct.of (cc := cX0_copyFrom) (maxL := 2) (ret := none) (by decide) rfl (Nat.le_of_ble_eq_true rfl) ?_
  intro p ev s m args below meth c A ls S hr hlk G hl
  have hx := S.1
  have hb := S.2.1
  have hown : s.vm.findClass RX0 = some m.cls := S.2.2.2.1
  have hts := S.2.2.2.2
  have hl : lv_has ls 2 [(0, .ref (a 0)), (1, .ref (b 0))] := hl
  have hiX0 : ∀ w ∈ wsX00, w ∈ wsX0_copyFrom := by decide +kernel
  have hf14 := hts (.fieldLink RX0 14 "StrikingWork$State" "hours" "LStrikingWork$Train;") (by decide +kernel)
  have hf20 := hts (.fieldLink RX0 20 "StrikingWork$State" "quarters" "LStrikingWork$Train;") (by decide +kernel)
  have hf26 := hts (.fieldLink RX0 26 "StrikingWork$State" "strikes" "LStrikingWork$Strikes;") (by decide +kernel)
  have hf30 := hts (.fieldLink RX0 30 "StrikingWork$State" "minute" "I") (by decide +kernel)
  have hf34 := hts (.fieldLink RX0 34 "StrikingWork$State" "silenceMode" "I") (by decide +kernel)
  have hf37 := hts (.fieldLink RX0 37 "StrikingWork$State" "silenceBegin" "I") (by decide +kernel)
  have hf40 := hts (.fieldLink RX0 40 "StrikingWork$State" "silenceEnd" "I") (by decide +kernel)
  refine lv_aload_n hx hb dX0_copyFrom_0 rfl (lv_at hl 0 rfl) ?_
  refine k_get (v := .ref (a 1)) S G 0 rfl rfl hiX0 0 (by decide) hf14 rfl dX0_copyFrom_1 ?_
  refine lv_aload_n hx hb dX0_copyFrom_4 rfl (lv_at hl 1 rfl) ?_
  refine k_get (v := .ref (b 1)) S G 7 rfl rfl hiX0 0 (by decide) hf14 rfl dX0_copyFrom_5 ?_
  refine k_callV (n := 1) (As := [.ref (b 1)]) (rest := []) (st1 := []) (ws1 := (stW cI a (upd (upd (upd (upd (upd r 4 (r2 4)) 5 (r2 5)) 6 (r2 6)) 7 (r2 7)) 8 (r2 8)) e (stW cI b r2 e2 ([])))) S G (c_X2_copyFrom l D cI cS (a 1) 0 (r 4) (r 5) (r 6) (r 7) (r 8) (b 1) 0 (r2 4) (r2 5) (r2 6) (r2 7) (r2 8)) gX0_copyFrom_X2_copyFrom rfl (by decide +kernel) ⟨⟨rfl, rfl⟩, Nat.le_of_ble_eq_true rfl, Nat.le_of_ble_eq_true rfl⟩ [1, 8] (by decide) rfl [(a 1), (b 1)] rfl rfl 1 rfl rfl rfl hl.1 rfl (Nat.le_of_ble_eq_true rfl) ⟨Nat.zero_le _, Nat.zero_le _⟩ dX0_copyFrom_8 rfl rfl (fun H locs G => ?_)
  refine lv_aload_n hx hb dX0_copyFrom_11 rfl (lv_at hl 0 rfl) ?_
  refine k_get (v := .ref (a 2)) S G 0 rfl rfl hiX0 1 (by decide) hf20 rfl dX0_copyFrom_12 ?_
  refine lv_aload_n hx hb dX0_copyFrom_15 rfl (lv_at hl 1 rfl) ?_
  refine k_get (v := .ref (b 2)) S G 7 rfl rfl hiX0 1 (by decide) hf20 rfl dX0_copyFrom_16 ?_
  refine k_callV (n := 1) (As := [.ref (b 2)]) (rest := []) (st1 := []) (ws1 := (stW cI a (upd (upd (upd (upd (upd (upd (upd (upd (upd (upd r 4 (r2 4)) 5 (r2 5)) 6 (r2 6)) 7 (r2 7)) 8 (r2 8)) 9 (r2 9)) 10 (r2 10)) 11 (r2 11)) 12 (r2 12)) 13 (r2 13)) e (stW cI b r2 e2 ([])))) S G (c_X2_copyFrom l D cI cS (a 2) 1 (r 9) (r 10) (r 11) (r 12) (r 13) (b 2) 1 (r2 9) (r2 10) (r2 11) (r2 12) (r2 13)) gX0_copyFrom_X2_copyFrom rfl (by decide +kernel) ⟨⟨rfl, rfl⟩, Nat.le_of_ble_eq_true rfl, Nat.le_of_ble_eq_true rfl⟩ [2, 9] (by decide) rfl [(a 2), (b 2)] rfl rfl 2 rfl rfl rfl hl.1 rfl (Nat.le_of_ble_eq_true rfl) ⟨Nat.zero_le _, Nat.zero_le _⟩ dX0_copyFrom_19 rfl rfl (fun H locs G => ?_)
  refine lv_aload_n hx hb dX0_copyFrom_22 rfl (lv_at hl 0 rfl) ?_
  refine k_get (v := .ref (a 3)) S G 0 rfl rfl hiX0 2 (by decide) hf26 rfl dX0_copyFrom_23 ?_
  refine lv_aload_n hx hb dX0_copyFrom_26 rfl (lv_at hl 1 rfl) ?_
  refine k_get (v := .ref (b 3)) S G 7 rfl rfl hiX0 2 (by decide) hf26 rfl dX0_copyFrom_27 ?_
  refine k_callV (n := 1) (As := [.ref (b 3)]) (rest := []) (st1 := []) (ws1 := (stW cI a (upd (upd (upd (upd (upd (upd (upd (upd (upd (upd (upd r 4 (r2 4)) 5 (r2 5)) 6 (r2 6)) 7 (r2 7)) 8 (r2 8)) 9 (r2 9)) 10 (r2 10)) 11 (r2 11)) 12 (r2 12)) 13 (r2 13)) 14 (r2 14)) (e3 (e2 0) (e2 1) (e2 2)) (stW cI b r2 e2 ([])))) S G (c_X1_copyFrom l D cI cS (a 3) (a 4) (a 5) (a 6) (r 14) (e 0) (e 1) (e 2) (b 3) (b 4) (b 5) (b 6) (r2 14) (e2 0) (e2 1) (e2 2)) gX0_copyFrom_X1_copyFrom rfl (by decide +kernel) ⟨⟨rfl, rfl⟩, Nat.le_of_ble_eq_true rfl, Nat.le_of_ble_eq_true rfl⟩ [3, 4, 5, 6, 10, 11, 12, 13] (by decide) rfl [(a 3), (a 4), (a 5), (a 6), (b 3), (b 4), (b 5), (b 6)] rfl rfl 3 rfl rfl rfl hl.1 rfl (Nat.le_of_ble_eq_true rfl) ⟨Nat.zero_le _, Nat.zero_le _⟩ dX0_copyFrom_30 rfl rfl (fun H locs G => ?_)
  refine lv_aload_n hx hb dX0_copyFrom_33 rfl (lv_at hl 0 rfl) ?_
  refine lv_aload_n hx hb dX0_copyFrom_34 rfl (lv_at hl 1 rfl) ?_
  refine k_get (v := .int (r2 0)) S G 7 rfl rfl hiX0 3 (by decide) hf30 rfl dX0_copyFrom_35 ?_
  refine k_put (ws1 := (stW cI a (upd (upd (upd (upd (upd (upd (upd (upd (upd (upd (upd (upd r 0 (r2 0)) 4 (r2 4)) 5 (r2 5)) 6 (r2 6)) 7 (r2 7)) 8 (r2 8)) 9 (r2 9)) 10 (r2 10)) 11 (r2 11)) 12 (r2 12)) 13 (r2 13)) 14 (r2 14)) (e3 (e2 0) (e2 1) (e2 2)) (stW cI b r2 e2 ([])))) S G 0 rfl rfl hiX0 tyX0 tyX0_ok nmX0 3 (by decide) hf30 rfl rfl rfl (Nat.le_of_ble_eq_true rfl) dX0_copyFrom_38 rfl (fun H locs G => ?_)
  refine lv_aload_n hx hb dX0_copyFrom_41 rfl (lv_at hl 0 rfl) ?_
  refine lv_aload_n hx hb dX0_copyFrom_42 rfl (lv_at hl 1 rfl) ?_
  refine k_get (v := .int (r2 1)) S G 7 rfl rfl hiX0 4 (by decide) hf34 rfl dX0_copyFrom_43 ?_
  refine k_put (ws1 := (stW cI a (upd (upd (upd (upd (upd (upd (upd (upd (upd (upd (upd (upd (upd r 0 (r2 0)) 1 (r2 1)) 4 (r2 4)) 5 (r2 5)) 6 (r2 6)) 7 (r2 7)) 8 (r2 8)) 9 (r2 9)) 10 (r2 10)) 11 (r2 11)) 12 (r2 12)) 13 (r2 13)) 14 (r2 14)) (e3 (e2 0) (e2 1) (e2 2)) (stW cI b r2 e2 ([])))) S G 0 rfl rfl hiX0 tyX0 tyX0_ok nmX0 4 (by decide) hf34 rfl rfl rfl (Nat.le_of_ble_eq_true rfl) dX0_copyFrom_46 rfl (fun H locs G => ?_)
  refine lv_aload_n hx hb dX0_copyFrom_49 rfl (lv_at hl 0 rfl) ?_
  refine lv_aload_n hx hb dX0_copyFrom_50 rfl (lv_at hl 1 rfl) ?_
  refine k_get (v := .int (r2 2)) S G 7 rfl rfl hiX0 5 (by decide) hf37 rfl dX0_copyFrom_51 ?_
  refine k_put (ws1 := (stW cI a (upd (upd (upd (upd (upd (upd (upd (upd (upd (upd (upd (upd (upd (upd r 0 (r2 0)) 1 (r2 1)) 2 (r2 2)) 4 (r2 4)) 5 (r2 5)) 6 (r2 6)) 7 (r2 7)) 8 (r2 8)) 9 (r2 9)) 10 (r2 10)) 11 (r2 11)) 12 (r2 12)) 13 (r2 13)) 14 (r2 14)) (e3 (e2 0) (e2 1) (e2 2)) (stW cI b r2 e2 ([])))) S G 0 rfl rfl hiX0 tyX0 tyX0_ok nmX0 5 (by decide) hf37 rfl rfl rfl (Nat.le_of_ble_eq_true rfl) dX0_copyFrom_54 rfl (fun H locs G => ?_)
  refine lv_aload_n hx hb dX0_copyFrom_57 rfl (lv_at hl 0 rfl) ?_
  refine lv_aload_n hx hb dX0_copyFrom_58 rfl (lv_at hl 1 rfl) ?_
  refine k_get (v := .int (r2 3)) S G 7 rfl rfl hiX0 6 (by decide) hf40 rfl dX0_copyFrom_59 ?_
  refine k_put (ws1 := (stW cI a (upd (upd (upd (upd (upd (upd (upd (upd (upd (upd (upd (upd (upd (upd (upd r 0 (r2 0)) 1 (r2 1)) 2 (r2 2)) 3 (r2 3)) 4 (r2 4)) 5 (r2 5)) 6 (r2 6)) 7 (r2 7)) 8 (r2 8)) 9 (r2 9)) 10 (r2 10)) 11 (r2 11)) 12 (r2 12)) 13 (r2 13)) 14 (r2 14)) (e3 (e2 0) (e2 1) (e2 2)) (stW cI b r2 e2 ([])))) S G 0 rfl rfl hiX0 tyX0 tyX0_ok nmX0 6 (by decide) hf40 rfl rfl rfl (Nat.le_of_ble_eq_true rfl) dX0_copyFrom_62 rfl (fun H locs G => ?_)
  have G := Gd.eq (ws1 := (stW cI a r2 e2 (stW cI b r2 e2 ([])))) G rfl
  exact k_vret S G hr hlk dX0_copyFrom_65 rfl
def s_X0_addToHash (r : Nat → Int32) (e : Nat → Nat → Int32) (h : Int64) : Int64 := (s_X1_addToHash (r 14) (e 0) (e 1) (e 2) ((31 * ((31 * ((31 * (s_X2_addToHash 1 (r 9) (r 10) (r 11) (r 12) (r 13) (s_X2_addToHash 0 (r 4) (r 5) (r 6) (r 7) (r 8) ((31 * h) + (r 0).toInt64) (r 0)) (r 0))) + (r 1).toInt64)) + (r 2).toInt64)) + (r 3).toInt64))
set_option maxHeartbeats 4000000 in
set_option maxRecDepth 100000 in
theorem c_X0_addToHash (l : Launch) (D : va_G) (cI cS : ClassId) (a : Nat → Nat) (r : Nat → Int32) (e : Nat → Nat → Int32) (h : Int64) (hcn : cnOk (r 14)) : Ct l yX0_addToHash wsX0_addToHash ({ frames := 5, cells := 0, slots := 0, locals := 110 }) D (tyL cI cS) [.ref (a 0), .long h] (stW cI a r e ([])) (some (.long (s_X0_addToHash r e h))) (stW cI a r e ([])) := by
  refine Ct.of (cc := cX0_addToHash) (maxL := 5) (ret := (some .long)) (by decide) rfl (Nat.le_of_ble_eq_true rfl) ?_
  intro p ev s m args below meth c A ls S hr hlk G hl
  have hx := S.1
  have hb := S.2.1
  have hown : s.vm.findClass RX0 = some m.cls := S.2.2.2.1
  have hts := S.2.2.2.2
  have hl : lv_has ls 5 [(0, .ref (a 0)), (1, .long h)] := hl
  have hiX0 : ∀ w ∈ wsX00, w ∈ wsX0_addToHash := by decide +kernel
  have hf14 := hts (.fieldLink RX0 14 "StrikingWork$State" "hours" "LStrikingWork$Train;") (by decide +kernel)
  have hf20 := hts (.fieldLink RX0 20 "StrikingWork$State" "quarters" "LStrikingWork$Train;") (by decide +kernel)
  have hf26 := hts (.fieldLink RX0 26 "StrikingWork$State" "strikes" "LStrikingWork$Strikes;") (by decide +kernel)
  have hf30 := hts (.fieldLink RX0 30 "StrikingWork$State" "minute" "I") (by decide +kernel)
  have hf34 := hts (.fieldLink RX0 34 "StrikingWork$State" "silenceMode" "I") (by decide +kernel)
  have hf37 := hts (.fieldLink RX0 37 "StrikingWork$State" "silenceBegin" "I") (by decide +kernel)
  have hf40 := hts (.fieldLink RX0 40 "StrikingWork$State" "silenceEnd" "I") (by decide +kernel)
  have hk54 := hts (.constantLong RX0 54 31) (by decide +kernel)
  refine lv_ldc2 (v := 31) hx hb hown hk54 dX0_addToHash_0 ?_
  refine lv_lload_n hx hb dX0_addToHash_3 rfl (lv_at hl 1 rfl) ?_
  refine lv_lmul hx hb dX0_addToHash_4 ?_
  refine lv_aload_n hx hb dX0_addToHash_5 rfl (lv_at hl 0 rfl) ?_
  refine k_get (v := .int (r 0)) S G 0 rfl rfl hiX0 3 (by decide) hf30 rfl dX0_addToHash_6 ?_
  refine lv_i2l (v := (r 0).toInt64) hx hb dX0_addToHash_9 rfl ?_
  refine lv_ladd hx hb dX0_addToHash_10 ?_
  refine lv_lstore_n (lv' := [(3, .long ((31 * h) + (r 0).toInt64)), (0, .ref (a 0)), (1, .long h)]) hx hb dX0_addToHash_11 rfl hl (by decide) rfl (fun ls hl => ?_)
  refine lv_aload_n hx hb dX0_addToHash_12 rfl (lv_at hl 1 rfl) ?_
  refine k_get (v := .ref (a 1)) S G 0 rfl rfl hiX0 0 (by decide) hf14 rfl dX0_addToHash_13 ?_
  refine lv_lload_n hx hb dX0_addToHash_16 rfl (lv_at hl 0 rfl) ?_
  refine lv_aload_n hx hb dX0_addToHash_17 rfl (lv_at hl 1 rfl) ?_
  refine k_get (v := .int (r 0)) S G 0 rfl rfl hiX0 3 (by decide) hf30 rfl dX0_addToHash_18 ?_
  refine k_callV (n := 2) (As := [.long ((31 * h) + (r 0).toInt64), .int (r 0)]) (rest := []) (st1 := [.long (s_X2_addToHash 0 (r 4) (r 5) (r 6) (r 7) (r 8) ((31 * h) + (r 0).toInt64) (r 0))]) (ws1 := (stW cI a r e ([]))) S G (c_X2_addToHash l D cI cS (a 1) 0 (r 4) (r 5) (r 6) (r 7) (r 8) ((31 * h) + (r 0).toInt64) (r 0)) gX0_addToHash_X2_addToHash rfl (by decide +kernel) ⟨⟨rfl, rfl⟩, Nat.le_of_ble_eq_true rfl, Nat.le_of_ble_eq_true rfl⟩ [1] (by decide) rfl [(a 1)] rfl rfl 1 rfl rfl rfl hl.1 rfl (Nat.le_of_ble_eq_true rfl) ⟨Nat.zero_le _, Nat.zero_le _⟩ dX0_addToHash_21 rfl rfl (fun H locs G => ?_)
  refine lv_lstore_n (lv' := [(3, .long (s_X2_addToHash 0 (r 4) (r 5) (r 6) (r 7) (r 8) ((31 * h) + (r 0).toInt64) (r 0))), (0, .ref (a 0)), (1, .long h)]) hx hb dX0_addToHash_24 rfl hl (by decide) rfl (fun ls hl => ?_)
  refine lv_aload_n hx hb dX0_addToHash_25 rfl (lv_at hl 1 rfl) ?_
  refine k_get (v := .ref (a 2)) S G 0 rfl rfl hiX0 1 (by decide) hf20 rfl dX0_addToHash_26 ?_
  refine lv_lload_n hx hb dX0_addToHash_29 rfl (lv_at hl 0 rfl) ?_
  refine lv_aload_n hx hb dX0_addToHash_30 rfl (lv_at hl 1 rfl) ?_
  refine k_get (v := .int (r 0)) S G 0 rfl rfl hiX0 3 (by decide) hf30 rfl dX0_addToHash_31 ?_
  refine k_callV (n := 2) (As := [.long (s_X2_addToHash 0 (r 4) (r 5) (r 6) (r 7) (r 8) ((31 * h) + (r 0).toInt64) (r 0)), .int (r 0)]) (rest := []) (st1 := [.long (s_X2_addToHash 1 (r 9) (r 10) (r 11) (r 12) (r 13) (s_X2_addToHash 0 (r 4) (r 5) (r 6) (r 7) (r 8) ((31 * h) + (r 0).toInt64) (r 0)) (r 0))]) (ws1 := (stW cI a r e ([]))) S G (c_X2_addToHash l D cI cS (a 2) 1 (r 9) (r 10) (r 11) (r 12) (r 13) (s_X2_addToHash 0 (r 4) (r 5) (r 6) (r 7) (r 8) ((31 * h) + (r 0).toInt64) (r 0)) (r 0)) gX0_addToHash_X2_addToHash rfl (by decide +kernel) ⟨⟨rfl, rfl⟩, Nat.le_of_ble_eq_true rfl, Nat.le_of_ble_eq_true rfl⟩ [2] (by decide) rfl [(a 2)] rfl rfl 2 rfl rfl rfl hl.1 rfl (Nat.le_of_ble_eq_true rfl) ⟨Nat.zero_le _, Nat.zero_le _⟩ dX0_addToHash_34 rfl rfl (fun H locs G => ?_)
  refine lv_lstore_n (lv' := [(3, .long (s_X2_addToHash 1 (r 9) (r 10) (r 11) (r 12) (r 13) (s_X2_addToHash 0 (r 4) (r 5) (r 6) (r 7) (r 8) ((31 * h) + (r 0).toInt64) (r 0)) (r 0))), (0, .ref (a 0)), (1, .long h)]) hx hb dX0_addToHash_37 rfl hl (by decide) rfl (fun ls hl => ?_)
  refine lv_ldc2 (v := 31) hx hb hown hk54 dX0_addToHash_38 ?_
  refine lv_lload_n hx hb dX0_addToHash_41 rfl (lv_at hl 0 rfl) ?_
  refine lv_lmul hx hb dX0_addToHash_42 ?_
  refine lv_aload_n hx hb dX0_addToHash_43 rfl (lv_at hl 1 rfl) ?_
  refine k_get (v := .int (r 1)) S G 0 rfl rfl hiX0 4 (by decide) hf34 rfl dX0_addToHash_44 ?_
  refine lv_i2l (v := (r 1).toInt64) hx hb dX0_addToHash_47 rfl ?_
  refine lv_ladd hx hb dX0_addToHash_48 ?_
  refine lv_lstore_n (lv' := [(3, .long ((31 * (s_X2_addToHash 1 (r 9) (r 10) (r 11) (r 12) (r 13) (s_X2_addToHash 0 (r 4) (r 5) (r 6) (r 7) (r 8) ((31 * h) + (r 0).toInt64) (r 0)) (r 0))) + (r 1).toInt64)), (0, .ref (a 0)), (1, .long h)]) hx hb dX0_addToHash_49 rfl hl (by decide) rfl (fun ls hl => ?_)
  refine lv_ldc2 (v := 31) hx hb hown hk54 dX0_addToHash_50 ?_
  refine lv_lload_n hx hb dX0_addToHash_53 rfl (lv_at hl 0 rfl) ?_
  refine lv_lmul hx hb dX0_addToHash_54 ?_
  refine lv_aload_n hx hb dX0_addToHash_55 rfl (lv_at hl 1 rfl) ?_
  refine k_get (v := .int (r 2)) S G 0 rfl rfl hiX0 5 (by decide) hf37 rfl dX0_addToHash_56 ?_
  refine lv_i2l (v := (r 2).toInt64) hx hb dX0_addToHash_59 rfl ?_
  refine lv_ladd hx hb dX0_addToHash_60 ?_
  refine lv_lstore_n (lv' := [(3, .long ((31 * ((31 * (s_X2_addToHash 1 (r 9) (r 10) (r 11) (r 12) (r 13) (s_X2_addToHash 0 (r 4) (r 5) (r 6) (r 7) (r 8) ((31 * h) + (r 0).toInt64) (r 0)) (r 0))) + (r 1).toInt64)) + (r 2).toInt64)), (0, .ref (a 0)), (1, .long h)]) hx hb dX0_addToHash_61 rfl hl (by decide) rfl (fun ls hl => ?_)
  refine lv_ldc2 (v := 31) hx hb hown hk54 dX0_addToHash_62 ?_
  refine lv_lload_n hx hb dX0_addToHash_65 rfl (lv_at hl 0 rfl) ?_
  refine lv_lmul hx hb dX0_addToHash_66 ?_
  refine lv_aload_n hx hb dX0_addToHash_67 rfl (lv_at hl 1 rfl) ?_
  refine k_get (v := .int (r 3)) S G 0 rfl rfl hiX0 6 (by decide) hf40 rfl dX0_addToHash_68 ?_
  refine lv_i2l (v := (r 3).toInt64) hx hb dX0_addToHash_71 rfl ?_
  refine lv_ladd hx hb dX0_addToHash_72 ?_
  refine lv_lstore_n (lv' := [(3, .long ((31 * ((31 * ((31 * (s_X2_addToHash 1 (r 9) (r 10) (r 11) (r 12) (r 13) (s_X2_addToHash 0 (r 4) (r 5) (r 6) (r 7) (r 8) ((31 * h) + (r 0).toInt64) (r 0)) (r 0))) + (r 1).toInt64)) + (r 2).toInt64)) + (r 3).toInt64)), (0, .ref (a 0)), (1, .long h)]) hx hb dX0_addToHash_73 rfl hl (by decide) rfl (fun ls hl => ?_)
  refine lv_aload_n hx hb dX0_addToHash_74 rfl (lv_at hl 1 rfl) ?_
  refine k_get (v := .ref (a 3)) S G 0 rfl rfl hiX0 2 (by decide) hf26 rfl dX0_addToHash_75 ?_
  refine lv_lload_n hx hb dX0_addToHash_78 rfl (lv_at hl 0 rfl) ?_
  refine k_callV (n := 1) (As := [.long ((31 * ((31 * ((31 * (s_X2_addToHash 1 (r 9) (r 10) (r 11) (r 12) (r 13) (s_X2_addToHash 0 (r 4) (r 5) (r 6) (r 7) (r 8) ((31 * h) + (r 0).toInt64) (r 0)) (r 0))) + (r 1).toInt64)) + (r 2).toInt64)) + (r 3).toInt64)]) (rest := []) (st1 := [.long (s_X1_addToHash (r 14) (e 0) (e 1) (e 2) ((31 * ((31 * ((31 * (s_X2_addToHash 1 (r 9) (r 10) (r 11) (r 12) (r 13) (s_X2_addToHash 0 (r 4) (r 5) (r 6) (r 7) (r 8) ((31 * h) + (r 0).toInt64) (r 0)) (r 0))) + (r 1).toInt64)) + (r 2).toInt64)) + (r 3).toInt64))]) (ws1 := (stW cI a r e ([]))) S G (c_X1_addToHash l D cI cS (a 3) (a 4) (a 5) (a 6) (r 14) (e 0) (e 1) (e 2) ((31 * ((31 * ((31 * (s_X2_addToHash 1 (r 9) (r 10) (r 11) (r 12) (r 13) (s_X2_addToHash 0 (r 4) (r 5) (r 6) (r 7) (r 8) ((31 * h) + (r 0).toInt64) (r 0)) (r 0))) + (r 1).toInt64)) + (r 2).toInt64)) + (r 3).toInt64) hcn) gX0_addToHash_X1_addToHash rfl (by decide +kernel) ⟨⟨rfl, rfl⟩, Nat.le_of_ble_eq_true rfl, Nat.le_of_ble_eq_true rfl⟩ [3, 4, 5, 6] (by decide) rfl [(a 3), (a 4), (a 5), (a 6)] rfl rfl 3 rfl rfl rfl hl.1 rfl (Nat.le_of_ble_eq_true rfl) ⟨Nat.zero_le _, Nat.zero_le _⟩ dX0_addToHash_79 rfl rfl (fun H locs G => ?_)
  have es : (s_X0_addToHash r e h) = (s_X1_addToHash (r 14) (e 0) (e 1) (e 2) ((31 * ((31 * ((31 * (s_X2_addToHash 1 (r 9) (r 10) (r 11) (r 12) (r 13) (s_X2_addToHash 0 (r 4) (r 5) (r 6) (r 7) (r 8) ((31 * h) + (r 0).toInt64) (r 0)) (r 0))) + (r 1).toInt64)) + (r 2).toInt64)) + (r 3).toInt64)) := rfl
  exact k_lret S G hr hlk dX0_addToHash_82 (by first | (rw [es]; done) | (rw [es]; rfl) | (simp only [es]; done) | (simp only [es]; rfl)) rfl
