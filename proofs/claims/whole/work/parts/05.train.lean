def s_X2_lastPosition (n : Int32) : Int32 := (if n = 0 then 12 else 4)
set_option maxHeartbeats 4000000 in
set_option maxRecDepth 100000 in
theorem c_X2_lastPosition (l : Launch) (D : va_G) (cI cS : ClassId) (t : Nat) (n : Int32) (mm : Int32) (pp : Int32) (wt : Int32) (sd : Int32) (ms : Int32) : Ct l yX2_lastPosition wsX2_lastPosition ({ frames := 0, cells := 0, slots := 0, locals := 0 }) D (tyL cI cS) [.ref t] [(t, .inr (2, [.int n, .int mm, .int pp, .int wt, .int sd, .int ms]))] (some (.int (s_X2_lastPosition n))) [(t, .inr (2, [.int n, .int mm, .int pp, .int wt, .int sd, .int ms]))] := by
  refine Ct.of (cc := cX2_lastPosition) (maxL := 1) (ret := (some .int)) (by decide) rfl (Nat.le_of_ble_eq_true rfl) ?_
  intro p ev s m args below meth c A ls S hr hlk G hl
  have hx := S.1
  have hb := S.2.1
  have hown : s.vm.findClass RX2 = some m.cls := S.2.2.2.1
  have hts := S.2.2.2.2
  have hl : lv_has ls 1 [(0, .ref t)] := hl
  have hiX2 : ∀ w ∈ wsX20, w ∈ wsX2_lastPosition := by decide +kernel
  have hf27 := hts (.fieldLink RX2 27 "StrikingWork$Train" "number" "I") (by decide +kernel)
  refine lv_aload_n hx hb dX2_lastPosition_0 rfl (lv_at hl 0 rfl) ?_
  refine k_get (v := .int n) S G 0 rfl rfl hiX2 0 (by decide) hf27 rfl dX2_lastPosition_1 ?_
  refine lv_if_ne (tgt := 12) hx hb dX2_lastPosition_4 (by decide) (fun c_1 => ?_) (fun c_1 => ?_)
  · skip
    refine lv_iconst (v := 4) hx hb dX2_lastPosition_12 (by decide) ?_
    have es : (s_X2_lastPosition n) = 4 := by rw [s_X2_lastPosition, if_neg c_1]
    exact k_iret S G hr hlk dX2_lastPosition_13 (by first | (rw [es]; done) | (rw [es]; rfl) | (simp only [es]; done) | (simp only [es]; rfl)) rfl
  · skip
    refine lv_bipush (v := 12) hx hb dX2_lastPosition_7 (by decide) ?_
    refine lv_goto (tgt := 13) hx hb dX2_lastPosition_9 (by decide) ?_
    have es : (s_X2_lastPosition n) = 12 := by rw [s_X2_lastPosition, if_pos c_1]
    exact k_iret S G hr hlk dX2_lastPosition_13 (by first | (rw [es]; done) | (rw [es]; rfl) | (simp only [es]; done) | (simp only [es]; rfl)) rfl
def s_X2_period (n : Int32) : Int32 := (if n = 0 then 60 else 15)
set_option maxHeartbeats 4000000 in
set_option maxRecDepth 100000 in
theorem c_X2_period (l : Launch) (D : va_G) (cI cS : ClassId) (t : Nat) (n : Int32) (mm : Int32) (pp : Int32) (wt : Int32) (sd : Int32) (ms : Int32) : Ct l yX2_period wsX2_period ({ frames := 0, cells := 0, slots := 0, locals := 0 }) D (tyL cI cS) [.ref t] [(t, .inr (2, [.int n, .int mm, .int pp, .int wt, .int sd, .int ms]))] (some (.int (s_X2_period n))) [(t, .inr (2, [.int n, .int mm, .int pp, .int wt, .int sd, .int ms]))] := by
  refine Ct.of (cc := cX2_period) (maxL := 1) (ret := (some .int)) (by decide) rfl (Nat.le_of_ble_eq_true rfl) ?_
  intro p ev s m args below meth c A ls S hr hlk G hl
  have hx := S.1
  have hb := S.2.1
  have hown : s.vm.findClass RX2 = some m.cls := S.2.2.2.1
  have hts := S.2.2.2.2
  have hl : lv_has ls 1 [(0, .ref t)] := hl
  have hiX2 : ∀ w ∈ wsX20, w ∈ wsX2_period := by decide +kernel
  have hf27 := hts (.fieldLink RX2 27 "StrikingWork$Train" "number" "I") (by decide +kernel)
  refine lv_aload_n hx hb dX2_period_0 rfl (lv_at hl 0 rfl) ?_
  refine k_get (v := .int n) S G 0 rfl rfl hiX2 0 (by decide) hf27 rfl dX2_period_1 ?_
  refine lv_if_ne (tgt := 12) hx hb dX2_period_4 (by decide) (fun c_1 => ?_) (fun c_1 => ?_)
  · skip
    refine lv_bipush (v := 15) hx hb dX2_period_12 (by decide) ?_
    have es : (s_X2_period n) = 15 := by rw [s_X2_period, if_neg c_1]
    exact k_iret S G hr hlk dX2_period_14 (by first | (rw [es]; done) | (rw [es]; rfl) | (simp only [es]; done) | (simp only [es]; rfl)) rfl
  · skip
    refine lv_bipush (v := 60) hx hb dX2_period_7 (by decide) ?_
    refine lv_goto (tgt := 14) hx hb dX2_period_9 (by decide) ?_
    have es : (s_X2_period n) = 60 := by rw [s_X2_period, if_pos c_1]
    exact k_iret S G hr hlk dX2_period_14 (by first | (rw [es]; done) | (rw [es]; rfl) | (simp only [es]; done) | (simp only [es]; rfl)) rfl
def s_X2_lastReleaseUpTo (n : Int32) (q : Int32) : Int32 := (if n = 0 then (q - (irem q 60)) else (q - (irem q 15)))
set_option maxHeartbeats 4000000 in
set_option maxRecDepth 100000 in
theorem c_X2_lastReleaseUpTo (l : Launch) (D : va_G) (cI cS : ClassId) (t : Nat) (n : Int32) (mm : Int32) (pp : Int32) (wt : Int32) (sd : Int32) (ms : Int32) (q : Int32) : Ct l yX2_lastReleaseUpTo wsX2_lastReleaseUpTo ({ frames := 0, cells := 0, slots := 0, locals := 0 }) D (tyL cI cS) [.ref t, .int q] [(t, .inr (2, [.int n, .int mm, .int pp, .int wt, .int sd, .int ms]))] (some (.int (s_X2_lastReleaseUpTo n q))) [(t, .inr (2, [.int n, .int mm, .int pp, .int wt, .int sd, .int ms]))] := by
  refine Ct.of (cc := cX2_lastReleaseUpTo) (maxL := 2) (ret := (some .int)) (by decide) rfl (Nat.le_of_ble_eq_true rfl) ?_
  intro p ev s m args below meth c A ls S hr hlk G hl
  have hx := S.1
  have hb := S.2.1
  have hown : s.vm.findClass RX2 = some m.cls := S.2.2.2.1
  have hts := S.2.2.2.2
  have hl : lv_has ls 2 [(0, .ref t), (1, .int q)] := hl
  have hiX2 : ∀ w ∈ wsX20, w ∈ wsX2_lastReleaseUpTo := by decide +kernel
  have hf27 := hts (.fieldLink RX2 27 "StrikingWork$Train" "number" "I") (by decide +kernel)
  refine lv_aload_n hx hb dX2_lastReleaseUpTo_0 rfl (lv_at hl 0 rfl) ?_
  refine k_get (v := .int n) S G 0 rfl rfl hiX2 0 (by decide) hf27 rfl dX2_lastReleaseUpTo_1 ?_
  refine lv_if_ne (tgt := 16) hx hb dX2_lastReleaseUpTo_4 (by decide) (fun c_1 => ?_) (fun c_1 => ?_)
  · skip
    refine lv_iload_n hx hb dX2_lastReleaseUpTo_16 rfl (lv_at hl 1 rfl) ?_
    refine lv_iload_n hx hb dX2_lastReleaseUpTo_17 rfl (lv_at hl 1 rfl) ?_
    refine lv_bipush (v := 15) hx hb dX2_lastReleaseUpTo_18 (by decide) ?_
    refine lv_irem hx hb dX2_lastReleaseUpTo_20 (by decide) ?_
    refine lv_lit (v := (irem q 15)) rfl ?_
    refine lv_isub hx hb dX2_lastReleaseUpTo_21 ?_
    have es : (s_X2_lastReleaseUpTo n q) = (q - (irem q 15)) := by rw [s_X2_lastReleaseUpTo, if_neg c_1]
    exact k_iret S G hr hlk dX2_lastReleaseUpTo_22 (by first | (rw [es]; done) | (rw [es]; rfl) | (simp only [es]; done) | (simp only [es]; rfl)) rfl
  · skip
    refine lv_iload_n hx hb dX2_lastReleaseUpTo_7 rfl (lv_at hl 1 rfl) ?_
    refine lv_iload_n hx hb dX2_lastReleaseUpTo_8 rfl (lv_at hl 1 rfl) ?_
    refine lv_bipush (v := 60) hx hb dX2_lastReleaseUpTo_9 (by decide) ?_
    refine lv_irem hx hb dX2_lastReleaseUpTo_11 (by decide) ?_
    refine lv_lit (v := (irem q 60)) rfl ?_
    refine lv_isub hx hb dX2_lastReleaseUpTo_12 ?_
    refine lv_goto (tgt := 22) hx hb dX2_lastReleaseUpTo_13 (by decide) ?_
    have es : (s_X2_lastReleaseUpTo n q) = (q - (irem q 60)) := by rw [s_X2_lastReleaseUpTo, if_pos c_1]
    exact k_iret S G hr hlk dX2_lastReleaseUpTo_22 (by first | (rw [es]; done) | (rw [es]; rfl) | (simp only [es]; done) | (simp only [es]; rfl)) rfl
def s_X2_isReleasedAt (n : Int32) (q : Int32) : Int32 := (if (s_X2_lastReleaseUpTo n q) = q then 1 else 0)
set_option maxHeartbeats 4000000 in
set_option maxRecDepth 100000 in
theorem c_X2_isReleasedAt (l : Launch) (D : va_G) (cI cS : ClassId) (t : Nat) (n : Int32) (mm : Int32) (pp : Int32) (wt : Int32) (sd : Int32) (ms : Int32) (q : Int32) : Ct l yX2_isReleasedAt wsX2_isReleasedAt ({ frames := 1, cells := 0, slots := 0, locals := 21 }) D (tyL cI cS) [.ref t, .int q] [(t, .inr (2, [.int n, .int mm, .int pp, .int wt, .int sd, .int ms]))] (some (.int (s_X2_isReleasedAt n q))) [(t, .inr (2, [.int n, .int mm, .int pp, .int wt, .int sd, .int ms]))] := by
  refine Ct.of (cc := cX2_isReleasedAt) (maxL := 2) (ret := (some .boolean)) (by decide) rfl (Nat.le_of_ble_eq_true rfl) ?_
  intro p ev s m args below meth c A ls S hr hlk G hl
  have hx := S.1
  have hb := S.2.1
  have hown : s.vm.findClass RX2 = some m.cls := S.2.2.2.1
  have hts := S.2.2.2.2
  have hl : lv_has ls 2 [(0, .ref t), (1, .int q)] := hl
  refine lv_aload_n hx hb dX2_isReleasedAt_0 rfl (lv_at hl 0 rfl) ?_
  refine lv_iload_n hx hb dX2_isReleasedAt_1 rfl (lv_at hl 1 rfl) ?_
  refine k_callV (n := 1) (As := [.int q]) (rest := []) (st1 := [.int (s_X2_lastReleaseUpTo n q)]) (ws1 := [(t, .inr (2, [.int n, .int mm, .int pp, .int wt, .int sd, .int ms]))]) S G (c_X2_lastReleaseUpTo l D cI cS t n mm pp wt sd ms q) gX2_isReleasedAt_X2_lastReleaseUpTo rfl (by decide +kernel) ⟨⟨rfl, rfl⟩, Nat.le_of_ble_eq_true rfl, Nat.le_of_ble_eq_true rfl⟩ [0] (by decide) rfl [t] rfl rfl 0 rfl rfl rfl hl.1 rfl (Nat.le_of_ble_eq_true rfl) ⟨Nat.zero_le _, Nat.zero_le _⟩ dX2_isReleasedAt_2 rfl rfl (fun H locs G => ?_)
  refine lv_iload_n hx hb dX2_isReleasedAt_5 rfl (lv_at hl 1 rfl) ?_
  refine lv_icmp_ne (tgt := 13) hx hb dX2_isReleasedAt_6 (by decide) (fun c_1 => ?_) (fun c_1 => ?_)
  · skip
    refine lv_iconst (v := 0) hx hb dX2_isReleasedAt_13 (by decide) ?_
    have es : (s_X2_isReleasedAt n q) = 0 := by rw [s_X2_isReleasedAt, if_neg c_1]
    exact k_zret S G hr hlk dX2_isReleasedAt_14 (by decide) (by first | (rw [es]; done) | (rw [es]; rfl) | (simp only [es]; done) | (simp only [es]; rfl)) rfl
  · skip
    refine lv_iconst (v := 1) hx hb dX2_isReleasedAt_9 (by decide) ?_
    refine lv_goto (tgt := 14) hx hb dX2_isReleasedAt_10 (by decide) ?_
    have es : (s_X2_isReleasedAt n q) = 1 := by rw [s_X2_isReleasedAt, if_pos c_1]
    exact k_zret S G hr hlk dX2_isReleasedAt_14 (by decide) (by first | (rw [es]; done) | (rw [es]; rfl) | (simp only [es]; done) | (simp only [es]; rfl)) rfl
def s_X2_dueAt (n : Int32) (q : Int32) : Int32 := (if n = 0 then (if (irem (q / 60) 12) = 0 then (s_X2_lastPosition n) else (irem (q / 60) 12)) else (if (irem (q / 15) 4) = 0 then (s_X2_lastPosition n) else (irem (q / 15) 4)))
set_option maxHeartbeats 4000000 in
set_option maxRecDepth 100000 in
theorem c_X2_dueAt (l : Launch) (D : va_G) (cI cS : ClassId) (t : Nat) (n : Int32) (mm : Int32) (pp : Int32) (wt : Int32) (sd : Int32) (ms : Int32) (q : Int32) : Ct l yX2_dueAt wsX2_dueAt ({ frames := 1, cells := 0, slots := 0, locals := 20 }) D (tyL cI cS) [.ref t, .int q] [(t, .inr (2, [.int n, .int mm, .int pp, .int wt, .int sd, .int ms]))] (some (.int (s_X2_dueAt n q))) [(t, .inr (2, [.int n, .int mm, .int pp, .int wt, .int sd, .int ms]))] := by
  refine Ct.of (cc := cX2_dueAt) (maxL := 3) (ret := (some .int)) (by decide) rfl (Nat.le_of_ble_eq_true rfl) ?_
  intro p ev s m args below meth c A ls S hr hlk G hl
  have hx := S.1
  have hb := S.2.1
  have hown : s.vm.findClass RX2 = some m.cls := S.2.2.2.1
  have hts := S.2.2.2.2
  have hl : lv_has ls 3 [(0, .ref t), (1, .int q)] := hl
  have hiX2 : ∀ w ∈ wsX20, w ∈ wsX2_dueAt := by decide +kernel
  have hf27 := hts (.fieldLink RX2 27 "StrikingWork$Train" "number" "I") (by decide +kernel)
  refine lv_aload_n hx hb dX2_dueAt_0 rfl (lv_at hl 0 rfl) ?_
  refine k_get (v := .int n) S G 0 rfl rfl hiX2 0 (by decide) hf27 rfl dX2_dueAt_1 ?_
  refine lv_if_ne (tgt := 17) hx hb dX2_dueAt_4 (by decide) (fun c_1 => ?_) (fun c_1 => ?_)
  · skip
    refine lv_iload_n hx hb dX2_dueAt_17 rfl (lv_at hl 1 rfl) ?_
    refine lv_bipush (v := 15) hx hb dX2_dueAt_18 (by decide) ?_
    refine lv_idiv hx hb dX2_dueAt_20 (by decide) ?_
    refine lv_iconst (v := 4) hx hb dX2_dueAt_21 (by decide) ?_
    refine lv_irem hx hb dX2_dueAt_22 (by decide) ?_
    refine lv_lit (v := (irem (q / 15) 4)) rfl ?_
    refine lv_istore_n (lv' := [(2, .int (irem (q / 15) 4)), (0, .ref t), (1, .int q)]) hx hb dX2_dueAt_23 rfl hl (by decide) rfl (fun ls hl => ?_)
    refine lv_iload_n hx hb dX2_dueAt_24 rfl (lv_at hl 0 rfl) ?_
    refine lv_if_ne (tgt := 35) hx hb dX2_dueAt_25 (by decide) (fun c_2 => ?_) (fun c_2 => ?_)
    · skip
      refine lv_iload_n hx hb dX2_dueAt_35 rfl (lv_at hl 0 rfl) ?_
      have es : (s_X2_dueAt n q) = (irem (q / 15) 4) := by rw [s_X2_dueAt, if_neg c_1, if_neg c_2]
      exact k_iret S G hr hlk dX2_dueAt_36 (by first | (rw [es]; done) | (rw [es]; rfl) | (simp only [es]; done) | (simp only [es]; rfl)) rfl
    · skip
      refine lv_aload_n hx hb dX2_dueAt_28 rfl (lv_at hl 1 rfl) ?_
      refine k_callV (n := 0) (As := []) (rest := []) (st1 := [.int (s_X2_lastPosition n)]) (ws1 := [(t, .inr (2, [.int n, .int mm, .int pp, .int wt, .int sd, .int ms]))]) S G (c_X2_lastPosition l D cI cS t n mm pp wt sd ms) gX2_dueAt_X2_lastPosition rfl (by decide +kernel) ⟨⟨rfl, rfl⟩, Nat.le_of_ble_eq_true rfl, Nat.le_of_ble_eq_true rfl⟩ [0] (by decide) rfl [t] rfl rfl 0 rfl rfl rfl hl.1 rfl (Nat.le_of_ble_eq_true rfl) ⟨Nat.zero_le _, Nat.zero_le _⟩ dX2_dueAt_29 rfl rfl (fun H locs G => ?_)
      refine lv_goto (tgt := 36) hx hb dX2_dueAt_32 (by decide) ?_
      have es : (s_X2_dueAt n q) = (s_X2_lastPosition n) := by rw [s_X2_dueAt, if_neg c_1, if_pos c_2]
      exact k_iret S G hr hlk dX2_dueAt_36 (by first | (rw [es]; done) | (rw [es]; rfl) | (simp only [es]; done) | (simp only [es]; rfl)) rfl
  · skip
    refine lv_iload_n hx hb dX2_dueAt_7 rfl (lv_at hl 1 rfl) ?_
    refine lv_bipush (v := 60) hx hb dX2_dueAt_8 (by decide) ?_
    refine lv_idiv hx hb dX2_dueAt_10 (by decide) ?_
    refine lv_bipush (v := 12) hx hb dX2_dueAt_11 (by decide) ?_
    refine lv_irem hx hb dX2_dueAt_13 (by decide) ?_
    refine lv_lit (v := (irem (q / 60) 12)) rfl ?_
    refine lv_goto (tgt := 23) hx hb dX2_dueAt_14 (by decide) ?_
    refine lv_istore_n (lv' := [(2, .int (irem (q / 60) 12)), (0, .ref t), (1, .int q)]) hx hb dX2_dueAt_23 rfl hl (by decide) rfl (fun ls hl => ?_)
    refine lv_iload_n hx hb dX2_dueAt_24 rfl (lv_at hl 0 rfl) ?_
    refine lv_if_ne (tgt := 35) hx hb dX2_dueAt_25 (by decide) (fun c_3 => ?_) (fun c_3 => ?_)
    · skip
      refine lv_iload_n hx hb dX2_dueAt_35 rfl (lv_at hl 0 rfl) ?_
      have es : (s_X2_dueAt n q) = (irem (q / 60) 12) := by rw [s_X2_dueAt, if_pos c_1, if_neg c_3]
      exact k_iret S G hr hlk dX2_dueAt_36 (by first | (rw [es]; done) | (rw [es]; rfl) | (simp only [es]; done) | (simp only [es]; rfl)) rfl
    · skip
      refine lv_aload_n hx hb dX2_dueAt_28 rfl (lv_at hl 1 rfl) ?_
      refine k_callV (n := 0) (As := []) (rest := []) (st1 := [.int (s_X2_lastPosition n)]) (ws1 := [(t, .inr (2, [.int n, .int mm, .int pp, .int wt, .int sd, .int ms]))]) S G (c_X2_lastPosition l D cI cS t n mm pp wt sd ms) gX2_dueAt_X2_lastPosition rfl (by decide +kernel) ⟨⟨rfl, rfl⟩, Nat.le_of_ble_eq_true rfl, Nat.le_of_ble_eq_true rfl⟩ [0] (by decide) rfl [t] rfl rfl 0 rfl rfl rfl hl.1 rfl (Nat.le_of_ble_eq_true rfl) ⟨Nat.zero_le _, Nat.zero_le _⟩ dX2_dueAt_29 rfl rfl (fun H locs G => ?_)
      refine lv_goto (tgt := 36) hx hb dX2_dueAt_32 (by decide) ?_
      have es : (s_X2_dueAt n q) = (s_X2_lastPosition n) := by rw [s_X2_dueAt, if_pos c_1, if_pos c_3]
      exact k_iret S G hr hlk dX2_dueAt_36 (by first | (rw [es]; done) | (rw [es]; rfl) | (simp only [es]; done) | (simp only [es]; rfl)) rfl
def s_X2_dueAfter (n : Int32) (q : Int32) : Int32 := (s_X2_dueAt n (q + (s_X2_period n)))
set_option maxHeartbeats 4000000 in
set_option maxRecDepth 100000 in
theorem c_X2_dueAfter (l : Launch) (D : va_G) (cI cS : ClassId) (t : Nat) (n : Int32) (mm : Int32) (pp : Int32) (wt : Int32) (sd : Int32) (ms : Int32) (q : Int32) : Ct l yX2_dueAfter wsX2_dueAfter ({ frames := 2, cells := 0, slots := 0, locals := 42 }) D (tyL cI cS) [.ref t, .int q] [(t, .inr (2, [.int n, .int mm, .int pp, .int wt, .int sd, .int ms]))] (some (.int (s_X2_dueAfter n q))) [(t, .inr (2, [.int n, .int mm, .int pp, .int wt, .int sd, .int ms]))] := by
  refine Ct.of (cc := cX2_dueAfter) (maxL := 2) (ret := (some .int)) (by decide) rfl (Nat.le_of_ble_eq_true rfl) ?_
  intro p ev s m args below meth c A ls S hr hlk G hl
  have hx := S.1
  have hb := S.2.1
  have hown : s.vm.findClass RX2 = some m.cls := S.2.2.2.1
  have hts := S.2.2.2.2
  have hl : lv_has ls 2 [(0, .ref t), (1, .int q)] := hl
  refine lv_aload_n hx hb dX2_dueAfter_0 rfl (lv_at hl 0 rfl) ?_
  refine lv_iload_n hx hb dX2_dueAfter_1 rfl (lv_at hl 1 rfl) ?_
  refine lv_aload_n hx hb dX2_dueAfter_2 rfl (lv_at hl 0 rfl) ?_
  refine k_callV (n := 0) (As := []) (rest := [.int q, .ref t]) (st1 := [.int (s_X2_period n), .int q, .ref t]) (ws1 := [(t, .inr (2, [.int n, .int mm, .int pp, .int wt, .int sd, .int ms]))]) S G (c_X2_period l D cI cS t n mm pp wt sd ms) gX2_dueAfter_X2_period rfl (by decide +kernel) ⟨⟨rfl, rfl⟩, Nat.le_of_ble_eq_true rfl, Nat.le_of_ble_eq_true rfl⟩ [0] (by decide) rfl [t] rfl rfl 0 rfl rfl rfl hl.1 rfl (Nat.le_of_ble_eq_true rfl) ⟨Nat.zero_le _, Nat.zero_le _⟩ dX2_dueAfter_3 rfl rfl (fun H locs G => ?_)
  refine lv_iadd hx hb dX2_dueAfter_6 ?_
  refine k_callV (n := 1) (As := [.int (q + (s_X2_period n))]) (rest := []) (st1 := [.int (s_X2_dueAt n (q + (s_X2_period n)))]) (ws1 := [(t, .inr (2, [.int n, .int mm, .int pp, .int wt, .int sd, .int ms]))]) S G (c_X2_dueAt l D cI cS t n mm pp wt sd ms (q + (s_X2_period n))) gX2_dueAfter_X2_dueAt rfl (by decide +kernel) ⟨⟨rfl, rfl⟩, Nat.le_of_ble_eq_true rfl, Nat.le_of_ble_eq_true rfl⟩ [0] (by decide) rfl [t] rfl rfl 0 rfl rfl rfl hl.1 rfl (Nat.le_of_ble_eq_true rfl) ⟨Nat.zero_le _, Nat.zero_le _⟩ dX2_dueAfter_7 rfl rfl (fun H locs G => ?_)
  have es : (s_X2_dueAfter n q) = (s_X2_dueAt n (q + (s_X2_period n))) := rfl
  exact k_iret S G hr hlk dX2_dueAfter_10 (by first | (rw [es]; done) | (rw [es]; rfl) | (simp only [es]; done) | (simp only [es]; rfl)) rfl
def s_X2_positionAfter (n : Int32) (q : Int32) : Int32 := (if q = (s_X2_lastPosition n) then 1 else (q + 1))
set_option maxHeartbeats 4000000 in
set_option maxRecDepth 100000 in
theorem c_X2_positionAfter (l : Launch) (D : va_G) (cI cS : ClassId) (t : Nat) (n : Int32) (mm : Int32) (pp : Int32) (wt : Int32) (sd : Int32) (ms : Int32) (q : Int32) : Ct l yX2_positionAfter wsX2_positionAfter ({ frames := 1, cells := 0, slots := 0, locals := 20 }) D (tyL cI cS) [.ref t, .int q] [(t, .inr (2, [.int n, .int mm, .int pp, .int wt, .int sd, .int ms]))] (some (.int (s_X2_positionAfter n q))) [(t, .inr (2, [.int n, .int mm, .int pp, .int wt, .int sd, .int ms]))] := by
  refine Ct.of (cc := cX2_positionAfter) (maxL := 2) (ret := (some .int)) (by decide) rfl (Nat.le_of_ble_eq_true rfl) ?_
  intro p ev s m args below meth c A ls S hr hlk G hl
  have hx := S.1
  have hb := S.2.1
  have hown : s.vm.findClass RX2 = some m.cls := S.2.2.2.1
  have hts := S.2.2.2.2
  have hl : lv_has ls 2 [(0, .ref t), (1, .int q)] := hl
  refine lv_iload_n hx hb dX2_positionAfter_0 rfl (lv_at hl 1 rfl) ?_
  refine lv_aload_n hx hb dX2_positionAfter_1 rfl (lv_at hl 0 rfl) ?_
  refine k_callV (n := 0) (As := []) (rest := [.int q]) (st1 := [.int (s_X2_lastPosition n), .int q]) (ws1 := [(t, .inr (2, [.int n, .int mm, .int pp, .int wt, .int sd, .int ms]))]) S G (c_X2_lastPosition l D cI cS t n mm pp wt sd ms) gX2_positionAfter_X2_lastPosition rfl (by decide +kernel) ⟨⟨rfl, rfl⟩, Nat.le_of_ble_eq_true rfl, Nat.le_of_ble_eq_true rfl⟩ [0] (by decide) rfl [t] rfl rfl 0 rfl rfl rfl hl.1 rfl (Nat.le_of_ble_eq_true rfl) ⟨Nat.zero_le _, Nat.zero_le _⟩ dX2_positionAfter_2 rfl rfl (fun H locs G => ?_)
  refine lv_icmp_ne (tgt := 12) hx hb dX2_positionAfter_5 (by decide) (fun c_1 => ?_) (fun c_1 => ?_)
  · skip
    refine lv_iload_n hx hb dX2_positionAfter_12 rfl (lv_at hl 1 rfl) ?_
    refine lv_iconst (v := 1) hx hb dX2_positionAfter_13 (by decide) ?_
    refine lv_iadd hx hb dX2_positionAfter_14 ?_
    have es : (s_X2_positionAfter n q) = (q + 1) := by rw [s_X2_positionAfter, if_neg c_1]
    exact k_iret S G hr hlk dX2_positionAfter_15 (by first | (rw [es]; done) | (rw [es]; rfl) | (simp only [es]; done) | (simp only [es]; rfl)) rfl
  · skip
    refine lv_iconst (v := 1) hx hb dX2_positionAfter_8 (by decide) ?_
    refine lv_goto (tgt := 15) hx hb dX2_positionAfter_9 (by decide) ?_
    have es : (s_X2_positionAfter n q) = 1 := by rw [s_X2_positionAfter, if_pos c_1]
    exact k_iret S G hr hlk dX2_positionAfter_15 (by first | (rw [es]; done) | (rw [es]; rfl) | (simp only [es]; done) | (simp only [es]; rfl)) rfl
def s_X2_lagAt (n : Int32) (mm : Int32) (pp : Int32) (q : Int32) : Int32 := (if mm = 1 then (if 0 ≤ ((s_X2_dueAfter n q) - pp) then ((s_X2_dueAfter n q) - pp) else (((s_X2_dueAfter n q) - pp) + (s_X2_lastPosition n))) else 0)
set_option maxHeartbeats 4000000 in
set_option maxRecDepth 100000 in
theorem c_X2_lagAt (l : Launch) (D : va_G) (cI cS : ClassId) (t : Nat) (n : Int32) (mm : Int32) (pp : Int32) (wt : Int32) (sd : Int32) (ms : Int32) (q : Int32) : Ct l yX2_lagAt wsX2_lagAt ({ frames := 3, cells := 0, slots := 0, locals := 63 }) D (tyL cI cS) [.ref t, .int q] [(t, .inr (2, [.int n, .int mm, .int pp, .int wt, .int sd, .int ms]))] (some (.int (s_X2_lagAt n mm pp q))) [(t, .inr (2, [.int n, .int mm, .int pp, .int wt, .int sd, .int ms]))] := by
  refine Ct.of (cc := cX2_lagAt) (maxL := 3) (ret := (some .int)) (by decide) rfl (Nat.le_of_ble_eq_true rfl) ?_
  intro p ev s m args below meth c A ls S hr hlk G hl
  have hx := S.1
  have hb := S.2.1
  have hown : s.vm.findClass RX2 = some m.cls := S.2.2.2.1
  have hts := S.2.2.2.2
  have hl : lv_has ls 3 [(0, .ref t), (1, .int q)] := hl
  have hiX2 : ∀ w ∈ wsX20, w ∈ wsX2_lagAt := by decide +kernel
  have hf9 := hts (.fieldLink RX2 9 "StrikingWork$Train" "mechanism" "I") (by decide +kernel)
  have hf15 := hts (.fieldLink RX2 15 "StrikingWork$Train" "position" "I") (by decide +kernel)
  refine lv_aload_n hx hb dX2_lagAt_0 rfl (lv_at hl 0 rfl) ?_
  refine k_get (v := .int mm) S G 0 rfl rfl hiX2 1 (by decide) hf9 rfl dX2_lagAt_1 ?_
  refine lv_iconst (v := 1) hx hb dX2_lagAt_4 (by decide) ?_
  refine lv_icmp_eq (tgt := 10) hx hb dX2_lagAt_5 (by decide) (fun c_1 => ?_) (fun c_1 => ?_)
  · skip
    refine lv_aload_n hx hb dX2_lagAt_10 rfl (lv_at hl 0 rfl) ?_
    refine lv_iload_n hx hb dX2_lagAt_11 rfl (lv_at hl 1 rfl) ?_
    refine k_callV (n := 1) (As := [.int q]) (rest := []) (st1 := [.int (s_X2_dueAfter n q)]) (ws1 := [(t, .inr (2, [.int n, .int mm, .int pp, .int wt, .int sd, .int ms]))]) S G (c_X2_dueAfter l D cI cS t n mm pp wt sd ms q) gX2_lagAt_X2_dueAfter rfl (by decide +kernel) ⟨⟨rfl, rfl⟩, Nat.le_of_ble_eq_true rfl, Nat.le_of_ble_eq_true rfl⟩ [0] (by decide) rfl [t] rfl rfl 0 rfl rfl rfl hl.1 rfl (Nat.le_of_ble_eq_true rfl) ⟨Nat.zero_le _, Nat.zero_le _⟩ dX2_lagAt_12 rfl rfl (fun H locs G => ?_)
    refine lv_aload_n hx hb dX2_lagAt_15 rfl (lv_at hl 0 rfl) ?_
    refine k_get (v := .int pp) S G 0 rfl rfl hiX2 2 (by decide) hf15 rfl dX2_lagAt_16 ?_
    refine lv_isub hx hb dX2_lagAt_19 ?_
    refine lv_istore_n (lv' := [(2, .int ((s_X2_dueAfter n q) - pp)), (0, .ref t), (1, .int q)]) hx hb dX2_lagAt_20 rfl hl (by decide) rfl (fun ls hl => ?_)
    refine lv_iload_n hx hb dX2_lagAt_21 rfl (lv_at hl 0 rfl) ?_
    refine lv_if_ge (tgt := 34) hx hb dX2_lagAt_22 (by decide) (fun c_2 => ?_) (fun c_2 => ?_)
    · skip
      refine lv_iload_n hx hb dX2_lagAt_34 rfl (lv_at hl 0 rfl) ?_
      have es : (s_X2_lagAt n mm pp q) = ((s_X2_dueAfter n q) - pp) := by rw [s_X2_lagAt, if_pos c_1, if_pos c_2]
      exact k_iret S G hr hlk dX2_lagAt_35 (by first | (rw [es]; done) | (rw [es]; rfl) | (simp only [es]; done) | (simp only [es]; rfl)) rfl
    · skip
      refine lv_iload_n hx hb dX2_lagAt_25 rfl (lv_at hl 0 rfl) ?_
      refine lv_aload_n hx hb dX2_lagAt_26 rfl (lv_at hl 1 rfl) ?_
      refine k_callV (n := 0) (As := []) (rest := [.int ((s_X2_dueAfter n q) - pp)]) (st1 := [.int (s_X2_lastPosition n), .int ((s_X2_dueAfter n q) - pp)]) (ws1 := [(t, .inr (2, [.int n, .int mm, .int pp, .int wt, .int sd, .int ms]))]) S G (c_X2_lastPosition l D cI cS t n mm pp wt sd ms) gX2_lagAt_X2_lastPosition rfl (by decide +kernel) ⟨⟨rfl, rfl⟩, Nat.le_of_ble_eq_true rfl, Nat.le_of_ble_eq_true rfl⟩ [0] (by decide) rfl [t] rfl rfl 0 rfl rfl rfl hl.1 rfl (Nat.le_of_ble_eq_true rfl) ⟨Nat.zero_le _, Nat.zero_le _⟩ dX2_lagAt_27 rfl rfl (fun H locs G => ?_)
      refine lv_iadd hx hb dX2_lagAt_30 ?_
      refine lv_goto (tgt := 35) hx hb dX2_lagAt_31 (by decide) ?_
      have es : (s_X2_lagAt n mm pp q) = (((s_X2_dueAfter n q) - pp) + (s_X2_lastPosition n)) := by rw [s_X2_lagAt, if_pos c_1, if_neg c_2]
      exact k_iret S G hr hlk dX2_lagAt_35 (by first | (rw [es]; done) | (rw [es]; rfl) | (simp only [es]; done) | (simp only [es]; rfl)) rfl
  · skip
    refine lv_iconst (v := 0) hx hb dX2_lagAt_8 (by decide) ?_
    have es : (s_X2_lagAt n mm pp q) = 0 := by rw [s_X2_lagAt, if_neg c_1]
    exact k_iret S G hr hlk dX2_lagAt_9 (by first | (rw [es]; done) | (rw [es]; rfl) | (simp only [es]; done) | (simp only [es]; rfl)) rfl
def s_X2_blowsFor (mm : Int32) (pp : Int32) (q : Int32) : Int32 := (if mm = 1 then pp else q)
set_option maxHeartbeats 4000000 in
set_option maxRecDepth 100000 in
theorem c_X2_blowsFor (l : Launch) (D : va_G) (cI cS : ClassId) (t : Nat) (n : Int32) (mm : Int32) (pp : Int32) (wt : Int32) (sd : Int32) (ms : Int32) (q : Int32) : Ct l yX2_blowsFor wsX2_blowsFor ({ frames := 0, cells := 0, slots := 0, locals := 0 }) D (tyL cI cS) [.ref t, .int q] [(t, .inr (2, [.int n, .int mm, .int pp, .int wt, .int sd, .int ms]))] (some (.int (s_X2_blowsFor mm pp q))) [(t, .inr (2, [.int n, .int mm, .int pp, .int wt, .int sd, .int ms]))] := by
  refine Ct.of (cc := cX2_blowsFor) (maxL := 2) (ret := (some .int)) (by decide) rfl (Nat.le_of_ble_eq_true rfl) ?_
  intro p ev s m args below meth c A ls S hr hlk G hl
  have hx := S.1
  have hb := S.2.1
  have hown : s.vm.findClass RX2 = some m.cls := S.2.2.2.1
  have hts := S.2.2.2.2
  have hl : lv_has ls 2 [(0, .ref t), (1, .int q)] := hl
  have hiX2 : ∀ w ∈ wsX20, w ∈ wsX2_blowsFor := by decide +kernel
  have hf9 := hts (.fieldLink RX2 9 "StrikingWork$Train" "mechanism" "I") (by decide +kernel)
  have hf15 := hts (.fieldLink RX2 15 "StrikingWork$Train" "position" "I") (by decide +kernel)
  refine lv_aload_n hx hb dX2_blowsFor_0 rfl (lv_at hl 0 rfl) ?_
  refine k_get (v := .int mm) S G 0 rfl rfl hiX2 1 (by decide) hf9 rfl dX2_blowsFor_1 ?_
  refine lv_iconst (v := 1) hx hb dX2_blowsFor_4 (by decide) ?_
  refine lv_icmp_ne (tgt := 15) hx hb dX2_blowsFor_5 (by decide) (fun c_1 => ?_) (fun c_1 => ?_)
  · skip
    refine lv_iload_n hx hb dX2_blowsFor_15 rfl (lv_at hl 1 rfl) ?_
    have es : (s_X2_blowsFor mm pp q) = q := by rw [s_X2_blowsFor, if_neg c_1]
    exact k_iret S G hr hlk dX2_blowsFor_16 (by first | (rw [es]; done) | (rw [es]; rfl) | (simp only [es]; done) | (simp only [es]; rfl)) rfl
  · skip
    refine lv_aload_n hx hb dX2_blowsFor_8 rfl (lv_at hl 0 rfl) ?_
    refine k_get (v := .int pp) S G 0 rfl rfl hiX2 2 (by decide) hf15 rfl dX2_blowsFor_9 ?_
    refine lv_goto (tgt := 16) hx hb dX2_blowsFor_12 (by decide) ?_
    have es : (s_X2_blowsFor mm pp q) = pp := by rw [s_X2_blowsFor, if_pos c_1]
    exact k_iret S G hr hlk dX2_blowsFor_16 (by first | (rw [es]; done) | (rw [es]; rfl) | (simp only [es]; done) | (simp only [es]; rfl)) rfl
def s_X2_canStrike (mm : Int32) (pp : Int32) (wt : Int32) (q : Int32) : Int32 := (if mm = 0 then 0 else (if wt < (s_X2_blowsFor mm pp q) then 0 else 1))
set_option maxHeartbeats 4000000 in
set_option maxRecDepth 100000 in
theorem c_X2_canStrike (l : Launch) (D : va_G) (cI cS : ClassId) (t : Nat) (n : Int32) (mm : Int32) (pp : Int32) (wt : Int32) (sd : Int32) (ms : Int32) (q : Int32) : Ct l yX2_canStrike wsX2_canStrike ({ frames := 1, cells := 0, slots := 0, locals := 21 }) D (tyL cI cS) [.ref t, .int q] [(t, .inr (2, [.int n, .int mm, .int pp, .int wt, .int sd, .int ms]))] (some (.int (s_X2_canStrike mm pp wt q))) [(t, .inr (2, [.int n, .int mm, .int pp, .int wt, .int sd, .int ms]))] := by
  refine Ct.of (cc := cX2_canStrike) (maxL := 2) (ret := (some .boolean)) (by decide) rfl (Nat.le_of_ble_eq_true rfl) ?_
  intro p ev s m args below meth c A ls S hr hlk G hl
  have hx := S.1
  have hb := S.2.1
  have hown : s.vm.findClass RX2 = some m.cls := S.2.2.2.1
  have hts := S.2.2.2.2
  have hl : lv_has ls 2 [(0, .ref t), (1, .int q)] := hl
  have hiX2 : ∀ w ∈ wsX20, w ∈ wsX2_canStrike := by decide +kernel
  have hf9 := hts (.fieldLink RX2 9 "StrikingWork$Train" "mechanism" "I") (by decide +kernel)
  have hf18 := hts (.fieldLink RX2 18 "StrikingWork$Train" "weight" "I") (by decide +kernel)
  refine lv_aload_n hx hb dX2_canStrike_0 rfl (lv_at hl 0 rfl) ?_
  refine k_get (v := .int mm) S G 0 rfl rfl hiX2 1 (by decide) hf9 rfl dX2_canStrike_1 ?_
  refine lv_if_eq (tgt := 23) hx hb dX2_canStrike_4 (by decide) (fun c_1 => ?_) (fun c_1 => ?_)
  · skip
    refine lv_iconst (v := 0) hx hb dX2_canStrike_23 (by decide) ?_
    have es : (s_X2_canStrike mm pp wt q) = 0 := by rw [s_X2_canStrike, if_pos c_1]
    exact k_zret S G hr hlk dX2_canStrike_24 (by decide) (by first | (rw [es]; done) | (rw [es]; rfl) | (simp only [es]; done) | (simp only [es]; rfl)) rfl
  · skip
    refine lv_aload_n hx hb dX2_canStrike_7 rfl (lv_at hl 0 rfl) ?_
    refine k_get (v := .int wt) S G 0 rfl rfl hiX2 3 (by decide) hf18 rfl dX2_canStrike_8 ?_
    refine lv_aload_n hx hb dX2_canStrike_11 rfl (lv_at hl 0 rfl) ?_
    refine lv_iload_n hx hb dX2_canStrike_12 rfl (lv_at hl 1 rfl) ?_
    refine k_callV (n := 1) (As := [.int q]) (rest := [.int wt]) (st1 := [.int (s_X2_blowsFor mm pp q), .int wt]) (ws1 := [(t, .inr (2, [.int n, .int mm, .int pp, .int wt, .int sd, .int ms]))]) S G (c_X2_blowsFor l D cI cS t n mm pp wt sd ms q) gX2_canStrike_X2_blowsFor rfl (by decide +kernel) ⟨⟨rfl, rfl⟩, Nat.le_of_ble_eq_true rfl, Nat.le_of_ble_eq_true rfl⟩ [0] (by decide) rfl [t] rfl rfl 0 rfl rfl rfl hl.1 rfl (Nat.le_of_ble_eq_true rfl) ⟨Nat.zero_le _, Nat.zero_le _⟩ dX2_canStrike_13 rfl rfl (fun H locs G => ?_)
    refine lv_icmp_lt (tgt := 23) hx hb dX2_canStrike_16 (by decide) (fun c_2 => ?_) (fun c_2 => ?_)
    · skip
      refine lv_iconst (v := 0) hx hb dX2_canStrike_23 (by decide) ?_
      have es : (s_X2_canStrike mm pp wt q) = 0 := by rw [s_X2_canStrike, if_neg c_1, if_pos c_2]
      exact k_zret S G hr hlk dX2_canStrike_24 (by decide) (by first | (rw [es]; done) | (rw [es]; rfl) | (simp only [es]; done) | (simp only [es]; rfl)) rfl
    · skip
      refine lv_iconst (v := 1) hx hb dX2_canStrike_19 (by decide) ?_
      refine lv_goto (tgt := 24) hx hb dX2_canStrike_20 (by decide) ?_
      have es : (s_X2_canStrike mm pp wt q) = 1 := by rw [s_X2_canStrike, if_neg c_1, if_neg c_2]
      exact k_zret S G hr hlk dX2_canStrike_24 (by decide) (by first | (rw [es]; done) | (rw [es]; rfl) | (simp only [es]; done) | (simp only [es]; rfl)) rfl
def s_X2_releaseWith (n : Int32) (mm : Int32) (pp : Int32) (wt : Int32) (ms : Int32) (q : Int32) : Int32 × Int32 × Int32 × Int32 := (if mm = 0 then (0, pp, wt, ms) else (if (s_X2_canStrike mm pp wt q) = 0 then (0, pp, wt, (ms + 1)) else (if mm = 1 then ((s_X2_blowsFor mm pp q), (s_X2_positionAfter n pp), (wt - (s_X2_blowsFor mm pp q)), ms) else ((s_X2_blowsFor mm pp q), pp, (wt - (s_X2_blowsFor mm pp q)), ms))))
set_option maxHeartbeats 4000000 in
set_option maxRecDepth 100000 in
theorem c_X2_releaseWith (l : Launch) (D : va_G) (cI cS : ClassId) (t : Nat) (n : Int32) (mm : Int32) (pp : Int32) (wt : Int32) (sd : Int32) (ms : Int32) (q : Int32) : Ct l yX2_releaseWith wsX2_releaseWith ({ frames := 2, cells := 0, slots := 0, locals := 42 }) D (tyL cI cS) [.ref t, .int q] [(t, .inr (2, [.int n, .int mm, .int pp, .int wt, .int sd, .int ms]))] (some (.int ((s_X2_releaseWith n mm pp wt ms q).1))) [(t, .inr (2, [.int n, .int mm, .int ((s_X2_releaseWith n mm pp wt ms q).2.1), .int ((s_X2_releaseWith n mm pp wt ms q).2.2.1), .int sd, .int ((s_X2_releaseWith n mm pp wt ms q).2.2.2)]))] := by
  refine Ct.of (cc := cX2_releaseWith) (maxL := 3) (ret := (some .int)) (by decide) rfl (Nat.le_of_ble_eq_true rfl) ?_
  intro p ev s m args below meth c A ls S hr hlk G hl
  have hx := S.1
  have hb := S.2.1
  have hown : s.vm.findClass RX2 = some m.cls := S.2.2.2.1
  have hts := S.2.2.2.2
  have hl : lv_has ls 3 [(0, .ref t), (1, .int q)] := hl
  have hiX2 : ∀ w ∈ wsX20, w ∈ wsX2_releaseWith := by decide +kernel
  have hf9 := hts (.fieldLink RX2 9 "StrikingWork$Train" "mechanism" "I") (by decide +kernel)
  have hf15 := hts (.fieldLink RX2 15 "StrikingWork$Train" "position" "I") (by decide +kernel)
  have hf18 := hts (.fieldLink RX2 18 "StrikingWork$Train" "weight" "I") (by decide +kernel)
  have hf24 := hts (.fieldLink RX2 24 "StrikingWork$Train" "missed" "I") (by decide +kernel)
  refine lv_aload_n hx hb dX2_releaseWith_0 rfl (lv_at hl 0 rfl) ?_
  refine k_get (v := .int mm) S G 0 rfl rfl hiX2 1 (by decide) hf9 rfl dX2_releaseWith_1 ?_
  refine lv_if_ne (tgt := 9) hx hb dX2_releaseWith_4 (by decide) (fun c_1 => ?_) (fun c_1 => ?_)
  · skip
    refine lv_aload_n hx hb dX2_releaseWith_9 rfl (lv_at hl 0 rfl) ?_
    refine lv_iload_n hx hb dX2_releaseWith_10 rfl (lv_at hl 1 rfl) ?_
    refine k_callV (n := 1) (As := [.int q]) (rest := []) (st1 := [.int (s_X2_canStrike mm pp wt q)]) (ws1 := [(t, .inr (2, [.int n, .int mm, .int pp, .int wt, .int sd, .int ms]))]) S G (c_X2_canStrike l D cI cS t n mm pp wt sd ms q) gX2_releaseWith_X2_canStrike rfl (by decide +kernel) ⟨⟨rfl, rfl⟩, Nat.le_of_ble_eq_true rfl, Nat.le_of_ble_eq_true rfl⟩ [0] (by decide) rfl [t] rfl rfl 0 rfl rfl rfl hl.1 rfl (Nat.le_of_ble_eq_true rfl) ⟨Nat.zero_le _, Nat.zero_le _⟩ dX2_releaseWith_11 rfl rfl (fun H locs G => ?_)
    refine lv_if_ne (tgt := 29) hx hb dX2_releaseWith_14 (by decide) (fun c_2 => ?_) (fun c_2 => ?_)
    · skip
      refine lv_aload_n hx hb dX2_releaseWith_29 rfl (lv_at hl 0 rfl) ?_
      refine lv_iload_n hx hb dX2_releaseWith_30 rfl (lv_at hl 1 rfl) ?_
      refine k_callV (n := 1) (As := [.int q]) (rest := []) (st1 := [.int (s_X2_blowsFor mm pp q)]) (ws1 := [(t, .inr (2, [.int n, .int mm, .int pp, .int wt, .int sd, .int ms]))]) S G (c_X2_blowsFor l D cI cS t n mm pp wt sd ms q) gX2_releaseWith_X2_blowsFor rfl (by decide +kernel) ⟨⟨rfl, rfl⟩, Nat.le_of_ble_eq_true rfl, Nat.le_of_ble_eq_true rfl⟩ [0] (by decide) rfl [t] rfl rfl 0 rfl rfl rfl hl.1 rfl (Nat.le_of_ble_eq_true rfl) ⟨Nat.zero_le _, Nat.zero_le _⟩ dX2_releaseWith_31 rfl rfl (fun H locs G => ?_)
      refine lv_istore_n (lv' := [(2, .int (s_X2_blowsFor mm pp q)), (0, .ref t), (1, .int q)]) hx hb dX2_releaseWith_34 rfl hl (by decide) rfl (fun ls hl => ?_)
      refine lv_aload_n hx hb dX2_releaseWith_35 rfl (lv_at hl 1 rfl) ?_
      refine lv_dup hx hb dX2_releaseWith_36 rfl ?_
      refine k_get (v := .int wt) S G 0 rfl rfl hiX2 3 (by decide) hf18 rfl dX2_releaseWith_37 ?_
      refine lv_iload_n hx hb dX2_releaseWith_40 rfl (lv_at hl 0 rfl) ?_
      refine lv_isub hx hb dX2_releaseWith_41 ?_
      refine k_put (ws1 := [(t, .inr (2, [.int n, .int mm, .int pp, .int (wt - (s_X2_blowsFor mm pp q)), .int sd, .int ms]))]) S G 0 rfl rfl hiX2 tyX2 tyX2_ok nmX2 3 (by decide) hf18 rfl rfl rfl (Nat.le_of_ble_eq_true rfl) dX2_releaseWith_42 rfl (fun H locs G => ?_)
      refine lv_aload_n hx hb dX2_releaseWith_45 rfl (lv_at hl 1 rfl) ?_
      refine k_get (v := .int mm) S G 0 rfl rfl hiX2 1 (by decide) hf9 rfl dX2_releaseWith_46 ?_
      refine lv_iconst (v := 1) hx hb dX2_releaseWith_49 (by decide) ?_
      refine lv_icmp_ne (tgt := 65) hx hb dX2_releaseWith_50 (by decide) (fun c_3 => ?_) (fun c_3 => ?_)
      · skip
        refine lv_iload_n hx hb dX2_releaseWith_65 rfl (lv_at hl 0 rfl) ?_
        have es : (s_X2_releaseWith n mm pp wt ms q) = ((s_X2_blowsFor mm pp q), pp, (wt - (s_X2_blowsFor mm pp q)), ms) := by rw [s_X2_releaseWith, if_neg c_1, if_neg c_2, if_neg c_3]
        exact k_iret S G hr hlk dX2_releaseWith_66 (by first | (rw [es]; done) | (rw [es]; rfl) | (simp only [es]; done) | (simp only [es]; rfl)) (by first | (rw [es]; done) | (rw [es]; rfl) | (simp only [es]; done) | (simp only [es]; rfl))
      · skip
        refine lv_aload_n hx hb dX2_releaseWith_53 rfl (lv_at hl 1 rfl) ?_
        refine lv_aload_n hx hb dX2_releaseWith_54 rfl (lv_at hl 1 rfl) ?_
        refine lv_aload_n hx hb dX2_releaseWith_55 rfl (lv_at hl 1 rfl) ?_
        refine k_get (v := .int pp) S G 0 rfl rfl hiX2 2 (by decide) hf15 rfl dX2_releaseWith_56 ?_
        refine k_callV (n := 1) (As := [.int pp]) (rest := [.ref t]) (st1 := [.int (s_X2_positionAfter n pp), .ref t]) (ws1 := [(t, .inr (2, [.int n, .int mm, .int pp, .int (wt - (s_X2_blowsFor mm pp q)), .int sd, .int ms]))]) S G (c_X2_positionAfter l D cI cS t n mm pp (wt - (s_X2_blowsFor mm pp q)) sd ms pp) gX2_releaseWith_X2_positionAfter rfl (by decide +kernel) ⟨⟨rfl, rfl⟩, Nat.le_of_ble_eq_true rfl, Nat.le_of_ble_eq_true rfl⟩ [0] (by decide) rfl [t] rfl rfl 0 rfl rfl rfl hl.1 rfl (Nat.le_of_ble_eq_true rfl) ⟨Nat.zero_le _, Nat.zero_le _⟩ dX2_releaseWith_59 rfl rfl (fun H locs G => ?_)
        refine k_put (ws1 := [(t, .inr (2, [.int n, .int mm, .int (s_X2_positionAfter n pp), .int (wt - (s_X2_blowsFor mm pp q)), .int sd, .int ms]))]) S G 0 rfl rfl hiX2 tyX2 tyX2_ok nmX2 2 (by decide) hf15 rfl rfl rfl (Nat.le_of_ble_eq_true rfl) dX2_releaseWith_62 rfl (fun H locs G => ?_)
        refine lv_iload_n hx hb dX2_releaseWith_65 rfl (lv_at hl 0 rfl) ?_
        have es : (s_X2_releaseWith n mm pp wt ms q) = ((s_X2_blowsFor mm pp q), (s_X2_positionAfter n pp), (wt - (s_X2_blowsFor mm pp q)), ms) := by rw [s_X2_releaseWith, if_neg c_1, if_neg c_2, if_pos c_3]
        exact k_iret S G hr hlk dX2_releaseWith_66 (by first | (rw [es]; done) | (rw [es]; rfl) | (simp only [es]; done) | (simp only [es]; rfl)) (by first | (rw [es]; done) | (rw [es]; rfl) | (simp only [es]; done) | (simp only [es]; rfl))
    · skip
      refine lv_aload_n hx hb dX2_releaseWith_17 rfl (lv_at hl 0 rfl) ?_
      refine lv_dup hx hb dX2_releaseWith_18 rfl ?_
      refine k_get (v := .int ms) S G 0 rfl rfl hiX2 5 (by decide) hf24 rfl dX2_releaseWith_19 ?_
      refine lv_iconst (v := 1) hx hb dX2_releaseWith_22 (by decide) ?_
      refine lv_iadd hx hb dX2_releaseWith_23 ?_
      refine k_put (ws1 := [(t, .inr (2, [.int n, .int mm, .int pp, .int wt, .int sd, .int (ms + 1)]))]) S G 0 rfl rfl hiX2 tyX2 tyX2_ok nmX2 5 (by decide) hf24 rfl rfl rfl (Nat.le_of_ble_eq_true rfl) dX2_releaseWith_24 rfl (fun H locs G => ?_)
      refine lv_iconst (v := 0) hx hb dX2_releaseWith_27 (by decide) ?_
      have es : (s_X2_releaseWith n mm pp wt ms q) = (0, pp, wt, (ms + 1)) := by rw [s_X2_releaseWith, if_neg c_1, if_pos c_2]
      exact k_iret S G hr hlk dX2_releaseWith_28 (by first | (rw [es]; done) | (rw [es]; rfl) | (simp only [es]; done) | (simp only [es]; rfl)) (by first | (rw [es]; done) | (rw [es]; rfl) | (simp only [es]; done) | (simp only [es]; rfl))
  · skip
    refine lv_iconst (v := 0) hx hb dX2_releaseWith_7 (by decide) ?_
    have es : (s_X2_releaseWith n mm pp wt ms q) = (0, pp, wt, ms) := by rw [s_X2_releaseWith, if_pos c_1]
    exact k_iret S G hr hlk dX2_releaseWith_8 (by first | (rw [es]; done) | (rw [es]; rfl) | (simp only [es]; done) | (simp only [es]; rfl)) (by first | (rw [es]; done) | (rw [es]; rfl) | (simp only [es]; done) | (simp only [es]; rfl))
set_option maxHeartbeats 4000000 in
set_option maxRecDepth 100000 in
theorem c_X2_copyFrom (l : Launch) (D : va_G) (cI cS : ClassId) (t : Nat) (n : Int32) (mm : Int32) (pp : Int32) (wt : Int32) (sd : Int32) (ms : Int32) (o : Nat) (n2 : Int32) (m2 : Int32) (p2 : Int32) (w2 : Int32) (s2 : Int32) (f2 : Int32) : Ct l yX2_copyFrom wsX2_copyFrom ({ frames := 0, cells := 0, slots := 0, locals := 0 }) D (tyL cI cS) [.ref t, .ref o] [(t, .inr (2, [.int n, .int mm, .int pp, .int wt, .int sd, .int ms])), (o, .inr (2, [.int n2, .int m2, .int p2, .int w2, .int s2, .int f2]))] none [(t, .inr (2, [.int n2, .int m2, .int p2, .int w2, .int s2, .int f2])), (o, .inr (2, [.int n2, .int m2, .int p2, .int w2, .int s2, .int f2]))] := by
  refine Ct.of (cc := cX2_copyFrom) (maxL := 2) (ret := none) (by decide) rfl (Nat.le_of_ble_eq_true rfl) ?_
  intro p ev s m args below meth c A ls S hr hlk G hl
  have hx := S.1
  have hb := S.2.1
  have hown : s.vm.findClass RX2 = some m.cls := S.2.2.2.1
  have hts := S.2.2.2.2
  have hl : lv_has ls 2 [(0, .ref t), (1, .ref o)] := hl
  have hiX2 : ∀ w ∈ wsX20, w ∈ wsX2_copyFrom := by decide +kernel
  have hf9 := hts (.fieldLink RX2 9 "StrikingWork$Train" "mechanism" "I") (by decide +kernel)
  have hf15 := hts (.fieldLink RX2 15 "StrikingWork$Train" "position" "I") (by decide +kernel)
  have hf18 := hts (.fieldLink RX2 18 "StrikingWork$Train" "weight" "I") (by decide +kernel)
  have hf21 := hts (.fieldLink RX2 21 "StrikingWork$Train" "sounded" "I") (by decide +kernel)
  have hf24 := hts (.fieldLink RX2 24 "StrikingWork$Train" "missed" "I") (by decide +kernel)
  have hf27 := hts (.fieldLink RX2 27 "StrikingWork$Train" "number" "I") (by decide +kernel)
  refine lv_aload_n hx hb dX2_copyFrom_0 rfl (lv_at hl 0 rfl) ?_
  refine lv_aload_n hx hb dX2_copyFrom_1 rfl (lv_at hl 1 rfl) ?_
  refine k_get (v := .int n2) S G 1 rfl rfl hiX2 0 (by decide) hf27 rfl dX2_copyFrom_2 ?_
  refine k_put (ws1 := [(t, .inr (2, [.int n2, .int mm, .int pp, .int wt, .int sd, .int ms])), (o, .inr (2, [.int n2, .int m2, .int p2, .int w2, .int s2, .int f2]))]) S G 0 rfl rfl hiX2 tyX2 tyX2_ok nmX2 0 (by decide) hf27 rfl rfl rfl (Nat.le_of_ble_eq_true rfl) dX2_copyFrom_5 rfl (fun H locs G => ?_)
  refine lv_aload_n hx hb dX2_copyFrom_8 rfl (lv_at hl 0 rfl) ?_
  refine lv_aload_n hx hb dX2_copyFrom_9 rfl (lv_at hl 1 rfl) ?_
  refine k_get (v := .int m2) S G 1 rfl rfl hiX2 1 (by decide) hf9 rfl dX2_copyFrom_10 ?_
  refine k_put (ws1 := [(t, .inr (2, [.int n2, .int m2, .int pp, .int wt, .int sd, .int ms])), (o, .inr (2, [.int n2, .int m2, .int p2, .int w2, .int s2, .int f2]))]) S G 0 rfl rfl hiX2 tyX2 tyX2_ok nmX2 1 (by decide) hf9 rfl rfl rfl (Nat.le_of_ble_eq_true rfl) dX2_copyFrom_13 rfl (fun H locs G => ?_)
  refine lv_aload_n hx hb dX2_copyFrom_16 rfl (lv_at hl 0 rfl) ?_
  refine lv_aload_n hx hb dX2_copyFrom_17 rfl (lv_at hl 1 rfl) ?_
  refine k_get (v := .int p2) S G 1 rfl rfl hiX2 2 (by decide) hf15 rfl dX2_copyFrom_18 ?_
  refine k_put (ws1 := [(t, .inr (2, [.int n2, .int m2, .int p2, .int wt, .int sd, .int ms])), (o, .inr (2, [.int n2, .int m2, .int p2, .int w2, .int s2, .int f2]))]) S G 0 rfl rfl hiX2 tyX2 tyX2_ok nmX2 2 (by decide) hf15 rfl rfl rfl (Nat.le_of_ble_eq_true rfl) dX2_copyFrom_21 rfl (fun H locs G => ?_)
  refine lv_aload_n hx hb dX2_copyFrom_24 rfl (lv_at hl 0 rfl) ?_
  refine lv_aload_n hx hb dX2_copyFrom_25 rfl (lv_at hl 1 rfl) ?_
  refine k_get (v := .int w2) S G 1 rfl rfl hiX2 3 (by decide) hf18 rfl dX2_copyFrom_26 ?_
  refine k_put (ws1 := [(t, .inr (2, [.int n2, .int m2, .int p2, .int w2, .int sd, .int ms])), (o, .inr (2, [.int n2, .int m2, .int p2, .int w2, .int s2, .int f2]))]) S G 0 rfl rfl hiX2 tyX2 tyX2_ok nmX2 3 (by decide) hf18 rfl rfl rfl (Nat.le_of_ble_eq_true rfl) dX2_copyFrom_29 rfl (fun H locs G => ?_)
  refine lv_aload_n hx hb dX2_copyFrom_32 rfl (lv_at hl 0 rfl) ?_
  refine lv_aload_n hx hb dX2_copyFrom_33 rfl (lv_at hl 1 rfl) ?_
  refine k_get (v := .int s2) S G 1 rfl rfl hiX2 4 (by decide) hf21 rfl dX2_copyFrom_34 ?_
  refine k_put (ws1 := [(t, .inr (2, [.int n2, .int m2, .int p2, .int w2, .int s2, .int ms])), (o, .inr (2, [.int n2, .int m2, .int p2, .int w2, .int s2, .int f2]))]) S G 0 rfl rfl hiX2 tyX2 tyX2_ok nmX2 4 (by decide) hf21 rfl rfl rfl (Nat.le_of_ble_eq_true rfl) dX2_copyFrom_37 rfl (fun H locs G => ?_)
  refine lv_aload_n hx hb dX2_copyFrom_40 rfl (lv_at hl 0 rfl) ?_
  refine lv_aload_n hx hb dX2_copyFrom_41 rfl (lv_at hl 1 rfl) ?_
  refine k_get (v := .int f2) S G 1 rfl rfl hiX2 5 (by decide) hf24 rfl dX2_copyFrom_42 ?_
  refine k_put (ws1 := [(t, .inr (2, [.int n2, .int m2, .int p2, .int w2, .int s2, .int f2])), (o, .inr (2, [.int n2, .int m2, .int p2, .int w2, .int s2, .int f2]))]) S G 0 rfl rfl hiX2 tyX2 tyX2_ok nmX2 5 (by decide) hf24 rfl rfl rfl (Nat.le_of_ble_eq_true rfl) dX2_copyFrom_45 rfl (fun H locs G => ?_)
  exact k_vret S G hr hlk dX2_copyFrom_48 rfl
def s_X2_addToHash (n : Int32) (mm : Int32) (pp : Int32) (wt : Int32) (sd : Int32) (ms : Int32) (h : Int64) (q : Int32) : Int64 := ((31 * ((31 * ((31 * ((31 * ((31 * ((31 * ((31 * h) + mm.toInt64)) + pp.toInt64)) + wt.toInt64)) + sd.toInt64)) + ms.toInt64)) + (s_X2_dueAfter n q).toInt64)) + (s_X2_lagAt n mm pp q).toInt64)
set_option maxHeartbeats 4000000 in
set_option maxRecDepth 100000 in
theorem c_X2_addToHash (l : Launch) (D : va_G) (cI cS : ClassId) (t : Nat) (n : Int32) (mm : Int32) (pp : Int32) (wt : Int32) (sd : Int32) (ms : Int32) (h : Int64) (q : Int32) : Ct l yX2_addToHash wsX2_addToHash ({ frames := 4, cells := 0, slots := 0, locals := 85 }) D (tyL cI cS) [.ref t, .long h, .int q] [(t, .inr (2, [.int n, .int mm, .int pp, .int wt, .int sd, .int ms]))] (some (.long (s_X2_addToHash n mm pp wt sd ms h q))) [(t, .inr (2, [.int n, .int mm, .int pp, .int wt, .int sd, .int ms]))] := by
  refine Ct.of (cc := cX2_addToHash) (maxL := 6) (ret := (some .long)) (by decide) rfl (Nat.le_of_ble_eq_true rfl) ?_
  intro p ev s m args below meth c A ls S hr hlk G hl
  have hx := S.1
  have hb := S.2.1
  have hown : s.vm.findClass RX2 = some m.cls := S.2.2.2.1
  have hts := S.2.2.2.2
  have hl : lv_has ls 6 [(0, .ref t), (1, .long h), (3, .int q)] := hl
  have hiX2 : ∀ w ∈ wsX20, w ∈ wsX2_addToHash := by decide +kernel
  have hf9 := hts (.fieldLink RX2 9 "StrikingWork$Train" "mechanism" "I") (by decide +kernel)
  have hf15 := hts (.fieldLink RX2 15 "StrikingWork$Train" "position" "I") (by decide +kernel)
  have hf18 := hts (.fieldLink RX2 18 "StrikingWork$Train" "weight" "I") (by decide +kernel)
  have hf21 := hts (.fieldLink RX2 21 "StrikingWork$Train" "sounded" "I") (by decide +kernel)
  have hf24 := hts (.fieldLink RX2 24 "StrikingWork$Train" "missed" "I") (by decide +kernel)
  have hk57 := hts (.constantLong RX2 57 31) (by decide +kernel)
  refine lv_ldc2 (v := 31) hx hb hown hk57 dX2_addToHash_0 ?_
  refine lv_lload_n hx hb dX2_addToHash_3 rfl (lv_at hl 1 rfl) ?_
  refine lv_lmul hx hb dX2_addToHash_4 ?_
  refine lv_aload_n hx hb dX2_addToHash_5 rfl (lv_at hl 0 rfl) ?_
  refine k_get (v := .int mm) S G 0 rfl rfl hiX2 1 (by decide) hf9 rfl dX2_addToHash_6 ?_
  refine lv_i2l (v := mm.toInt64) hx hb dX2_addToHash_9 rfl ?_
  refine lv_ladd hx hb dX2_addToHash_10 ?_
  refine lv_lstore (lv' := [(4, .long ((31 * h) + mm.toInt64)), (0, .ref t), (1, .long h), (3, .int q)]) hx hb dX2_addToHash_11 hl (by decide) rfl (fun ls hl => ?_)
  refine lv_ldc2 (v := 31) hx hb hown hk57 dX2_addToHash_13 ?_
  refine lv_lload hx hb dX2_addToHash_16 (lv_at hl 0 rfl) ?_
  refine lv_lmul hx hb dX2_addToHash_18 ?_
  refine lv_aload_n hx hb dX2_addToHash_19 rfl (lv_at hl 1 rfl) ?_
  refine k_get (v := .int pp) S G 0 rfl rfl hiX2 2 (by decide) hf15 rfl dX2_addToHash_20 ?_
  refine lv_i2l (v := pp.toInt64) hx hb dX2_addToHash_23 rfl ?_
  refine lv_ladd hx hb dX2_addToHash_24 ?_
  refine lv_lstore (lv' := [(4, .long ((31 * ((31 * h) + mm.toInt64)) + pp.toInt64)), (0, .ref t), (1, .long h), (3, .int q)]) hx hb dX2_addToHash_25 hl (by decide) rfl (fun ls hl => ?_)
  refine lv_ldc2 (v := 31) hx hb hown hk57 dX2_addToHash_27 ?_
  refine lv_lload hx hb dX2_addToHash_30 (lv_at hl 0 rfl) ?_
  refine lv_lmul hx hb dX2_addToHash_32 ?_
  refine lv_aload_n hx hb dX2_addToHash_33 rfl (lv_at hl 1 rfl) ?_
  refine k_get (v := .int wt) S G 0 rfl rfl hiX2 3 (by decide) hf18 rfl dX2_addToHash_34 ?_
  refine lv_i2l (v := wt.toInt64) hx hb dX2_addToHash_37 rfl ?_
  refine lv_ladd hx hb dX2_addToHash_38 ?_
  refine lv_lstore (lv' := [(4, .long ((31 * ((31 * ((31 * h) + mm.toInt64)) + pp.toInt64)) + wt.toInt64)), (0, .ref t), (1, .long h), (3, .int q)]) hx hb dX2_addToHash_39 hl (by decide) rfl (fun ls hl => ?_)
  refine lv_ldc2 (v := 31) hx hb hown hk57 dX2_addToHash_41 ?_
  refine lv_lload hx hb dX2_addToHash_44 (lv_at hl 0 rfl) ?_
  refine lv_lmul hx hb dX2_addToHash_46 ?_
  refine lv_aload_n hx hb dX2_addToHash_47 rfl (lv_at hl 1 rfl) ?_
  refine k_get (v := .int sd) S G 0 rfl rfl hiX2 4 (by decide) hf21 rfl dX2_addToHash_48 ?_
  refine lv_i2l (v := sd.toInt64) hx hb dX2_addToHash_51 rfl ?_
  refine lv_ladd hx hb dX2_addToHash_52 ?_
  refine lv_lstore (lv' := [(4, .long ((31 * ((31 * ((31 * ((31 * h) + mm.toInt64)) + pp.toInt64)) + wt.toInt64)) + sd.toInt64)), (0, .ref t), (1, .long h), (3, .int q)]) hx hb dX2_addToHash_53 hl (by decide) rfl (fun ls hl => ?_)
  refine lv_ldc2 (v := 31) hx hb hown hk57 dX2_addToHash_55 ?_
  refine lv_lload hx hb dX2_addToHash_58 (lv_at hl 0 rfl) ?_
  refine lv_lmul hx hb dX2_addToHash_60 ?_
  refine lv_aload_n hx hb dX2_addToHash_61 rfl (lv_at hl 1 rfl) ?_
  refine k_get (v := .int ms) S G 0 rfl rfl hiX2 5 (by decide) hf24 rfl dX2_addToHash_62 ?_
  refine lv_i2l (v := ms.toInt64) hx hb dX2_addToHash_65 rfl ?_
  refine lv_ladd hx hb dX2_addToHash_66 ?_
  refine lv_lstore (lv' := [(4, .long ((31 * ((31 * ((31 * ((31 * ((31 * h) + mm.toInt64)) + pp.toInt64)) + wt.toInt64)) + sd.toInt64)) + ms.toInt64)), (0, .ref t), (1, .long h), (3, .int q)]) hx hb dX2_addToHash_67 hl (by decide) rfl (fun ls hl => ?_)
  refine lv_ldc2 (v := 31) hx hb hown hk57 dX2_addToHash_69 ?_
  refine lv_lload hx hb dX2_addToHash_72 (lv_at hl 0 rfl) ?_
  refine lv_lmul hx hb dX2_addToHash_74 ?_
  refine lv_aload_n hx hb dX2_addToHash_75 rfl (lv_at hl 1 rfl) ?_
  refine lv_iload_n hx hb dX2_addToHash_76 rfl (lv_at hl 3 rfl) ?_
  refine k_callV (n := 1) (As := [.int q]) (rest := [.long (31 * ((31 * ((31 * ((31 * ((31 * ((31 * h) + mm.toInt64)) + pp.toInt64)) + wt.toInt64)) + sd.toInt64)) + ms.toInt64))]) (st1 := [.int (s_X2_dueAfter n q), .long (31 * ((31 * ((31 * ((31 * ((31 * ((31 * h) + mm.toInt64)) + pp.toInt64)) + wt.toInt64)) + sd.toInt64)) + ms.toInt64))]) (ws1 := [(t, .inr (2, [.int n, .int mm, .int pp, .int wt, .int sd, .int ms]))]) S G (c_X2_dueAfter l D cI cS t n mm pp wt sd ms q) gX2_addToHash_X2_dueAfter rfl (by decide +kernel) ⟨⟨rfl, rfl⟩, Nat.le_of_ble_eq_true rfl, Nat.le_of_ble_eq_true rfl⟩ [0] (by decide) rfl [t] rfl rfl 0 rfl rfl rfl hl.1 rfl (Nat.le_of_ble_eq_true rfl) ⟨Nat.zero_le _, Nat.zero_le _⟩ dX2_addToHash_77 rfl rfl (fun H locs G => ?_)
  refine lv_i2l (v := (s_X2_dueAfter n q).toInt64) hx hb dX2_addToHash_80 rfl ?_
  refine lv_ladd hx hb dX2_addToHash_81 ?_
  refine lv_lstore (lv' := [(4, .long ((31 * ((31 * ((31 * ((31 * ((31 * ((31 * h) + mm.toInt64)) + pp.toInt64)) + wt.toInt64)) + sd.toInt64)) + ms.toInt64)) + (s_X2_dueAfter n q).toInt64)), (0, .ref t), (1, .long h), (3, .int q)]) hx hb dX2_addToHash_82 hl (by decide) rfl (fun ls hl => ?_)
  refine lv_ldc2 (v := 31) hx hb hown hk57 dX2_addToHash_84 ?_
  refine lv_lload hx hb dX2_addToHash_87 (lv_at hl 0 rfl) ?_
  refine lv_lmul hx hb dX2_addToHash_89 ?_
  refine lv_aload_n hx hb dX2_addToHash_90 rfl (lv_at hl 1 rfl) ?_
  refine lv_iload_n hx hb dX2_addToHash_91 rfl (lv_at hl 3 rfl) ?_
  refine k_callV (n := 1) (As := [.int q]) (rest := [.long (31 * ((31 * ((31 * ((31 * ((31 * ((31 * ((31 * h) + mm.toInt64)) + pp.toInt64)) + wt.toInt64)) + sd.toInt64)) + ms.toInt64)) + (s_X2_dueAfter n q).toInt64))]) (st1 := [.int (s_X2_lagAt n mm pp q), .long (31 * ((31 * ((31 * ((31 * ((31 * ((31 * ((31 * h) + mm.toInt64)) + pp.toInt64)) + wt.toInt64)) + sd.toInt64)) + ms.toInt64)) + (s_X2_dueAfter n q).toInt64))]) (ws1 := [(t, .inr (2, [.int n, .int mm, .int pp, .int wt, .int sd, .int ms]))]) S G (c_X2_lagAt l D cI cS t n mm pp wt sd ms q) gX2_addToHash_X2_lagAt rfl (by decide +kernel) ⟨⟨rfl, rfl⟩, Nat.le_of_ble_eq_true rfl, Nat.le_of_ble_eq_true rfl⟩ [0] (by decide) rfl [t] rfl rfl 0 rfl rfl rfl hl.1 rfl (Nat.le_of_ble_eq_true rfl) ⟨Nat.zero_le _, Nat.zero_le _⟩ dX2_addToHash_92 rfl rfl (fun H locs G => ?_)
  refine lv_i2l (v := (s_X2_lagAt n mm pp q).toInt64) hx hb dX2_addToHash_95 rfl ?_
  refine lv_ladd hx hb dX2_addToHash_96 ?_
  have es : (s_X2_addToHash n mm pp wt sd ms h q) = ((31 * ((31 * ((31 * ((31 * ((31 * ((31 * ((31 * h) + mm.toInt64)) + pp.toInt64)) + wt.toInt64)) + sd.toInt64)) + ms.toInt64)) + (s_X2_dueAfter n q).toInt64)) + (s_X2_lagAt n mm pp q).toInt64) := rfl
  exact k_lret S G hr hlk dX2_addToHash_97 (by first | (rw [es]; done) | (rw [es]; rfl) | (simp only [es]; done) | (simp only [es]; rfl)) rfl
