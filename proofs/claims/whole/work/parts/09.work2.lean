def s_X3_strikeQuarter (r : Nat → Int32) (e : Nat → Nat → Int32) : Int32 × (Nat → Int32) × (Nat → Nat → Int32) := (if (s_X0_blocksAt r (r 0)) = 0 then (if (s_X2_isReleasedAt 0 ((s_X3_release_q r e (s_X2_dueAt 1 (r 0)) (s_X0_hushesAt r (r 0))).2.1 0)) = 0 then ((s_X3_release_q r e (s_X2_dueAt 1 (r 0)) (s_X0_hushesAt r (r 0))).1, (s_X3_release_q r e (s_X2_dueAt 1 (r 0)) (s_X0_hushesAt r (r 0))).2.1, (s_X3_release_q r e (s_X2_dueAt 1 (r 0)) (s_X0_hushesAt r (r 0))).2.2) else (((s_X3_release_q r e (s_X2_dueAt 1 (r 0)) (s_X0_hushesAt r (r 0))).1 + (s_X3_release_h (s_X3_release_q r e (s_X2_dueAt 1 (r 0)) (s_X0_hushesAt r (r 0))).2.1 (s_X3_release_q r e (s_X2_dueAt 1 (r 0)) (s_X0_hushesAt r (r 0))).2.2 (s_X2_dueAt 0 ((s_X3_release_q r e (s_X2_dueAt 1 (r 0)) (s_X0_hushesAt r (r 0))).2.1 0)) (s_X0_hushesAt r (r 0))).1), (s_X3_release_h (s_X3_release_q r e (s_X2_dueAt 1 (r 0)) (s_X0_hushesAt r (r 0))).2.1 (s_X3_release_q r e (s_X2_dueAt 1 (r 0)) (s_X0_hushesAt r (r 0))).2.2 (s_X2_dueAt 0 ((s_X3_release_q r e (s_X2_dueAt 1 (r 0)) (s_X0_hushesAt r (r 0))).2.1 0)) (s_X0_hushesAt r (r 0))).2.1, (s_X3_release_h (s_X3_release_q r e (s_X2_dueAt 1 (r 0)) (s_X0_hushesAt r (r 0))).2.1 (s_X3_release_q r e (s_X2_dueAt 1 (r 0)) (s_X0_hushesAt r (r 0))).2.2 (s_X2_dueAt 0 ((s_X3_release_q r e (s_X2_dueAt 1 (r 0)) (s_X0_hushesAt r (r 0))).2.1 0)) (s_X0_hushesAt r (r 0))).2.2)) else (0, r, e))
set_option maxHeartbeats 4000000 in
set_option maxRecDepth 100000 in
theorem c_X3_strikeQuarter (l : Launch) (D : va_G) (cI cS : ClassId) (x : Nat) (sv : Nat) (tl : Nat) (er : Nat) (sc : Int32) (z : Nat → Int32) (a : Nat → Nat) (r : Nat → Int32) (e : Nat → Nat → Int32) : Ct l yX3_strikeQuarter wsX3_strikeQuarter ({ frames := 4, cells := 0, slots := 0, locals := 88 }) D (tyL cI cS) [.ref x] ((x, .inr (3, [.ref (a 0), .ref sv, .ref tl, .ref er, .int sc])) :: (er, .inl (cI, 3, .inl z)) :: stW cI a r e ([])) (some (.int ((s_X3_strikeQuarter r e).1))) ((x, .inr (3, [.ref (a 0), .ref sv, .ref tl, .ref er, .int sc])) :: (er, .inl (cI, 3, .inl z)) :: stW cI a ((s_X3_strikeQuarter r e).2.1) ((s_X3_strikeQuarter r e).2.2) ([])) := by
  refine Ct.of (cc := cX3_strikeQuarter) (maxL := 3) (ret := (some .int)) (by decide) rfl (Nat.le_of_ble_eq_true rfl) ?_
  intro p ev s m args below meth c A ls S hr hlk G hl
  have hx := S.1
  have hb := S.2.1
  have hown : s.vm.findClass RX3 = some m.cls := S.2.2.2.1
  have hts := S.2.2.2.2
  have hl : lv_has ls 3 [(0, .ref x)] := hl
  have hiX0 : ∀ w ∈ wsX00, w ∈ wsX3_strikeQuarter := by decide +kernel
  have hiX3 : ∀ w ∈ wsX30, w ∈ wsX3_strikeQuarter := by decide +kernel
  have hf10 := hts (.fieldLink RX3 10 "StrikingWork" "now" "LStrikingWork$State;") (by decide +kernel)
  have hf83 := hts (.fieldLink RX3 83 "StrikingWork$State" "minute" "I") (by decide +kernel)
  have hf171 := hts (.fieldLink RX3 171 "StrikingWork$State" "quarters" "LStrikingWork$Train;") (by decide +kernel)
  have hf174 := hts (.fieldLink RX3 174 "StrikingWork$State" "hours" "LStrikingWork$Train;") (by decide +kernel)
  refine lv_aload_n hx hb dX3_strikeQuarter_0 rfl (lv_at hl 0 rfl) ?_
  refine k_get (v := .ref (a 0)) S G 0 rfl rfl hiX3 0 (by decide) hf10 rfl dX3_strikeQuarter_1 ?_
  refine lv_aload_n hx hb dX3_strikeQuarter_4 rfl (lv_at hl 0 rfl) ?_
  refine k_get (v := .ref (a 0)) S G 0 rfl rfl hiX3 0 (by decide) hf10 rfl dX3_strikeQuarter_5 ?_
  refine k_get (v := .int (r 0)) S G 2 rfl rfl hiX0 3 (by decide) hf83 rfl dX3_strikeQuarter_8 ?_
  refine k_callV (n := 1) (As := [.int (r 0)]) (rest := []) (st1 := [.int (s_X0_blocksAt r (r 0))]) (ws1 := ((x, .inr (3, [.ref (a 0), .ref sv, .ref tl, .ref er, .int sc])) :: (er, .inl (cI, 3, .inl z)) :: stW cI a r e ([]))) S G (c_X0_blocksAt l D cI cS a r e (r 0)) gX3_strikeQuarter_X0_blocksAt rfl (by decide +kernel) ⟨⟨rfl, rfl⟩, Nat.le_of_ble_eq_true rfl, Nat.le_of_ble_eq_true rfl⟩ [2, 3, 4, 5, 6, 7, 8] (by decide) rfl [(a 0), (a 1), (a 2), (a 3), (a 4), (a 5), (a 6)] rfl rfl 2 rfl rfl rfl hl.1 rfl (Nat.le_of_ble_eq_true rfl) ⟨Nat.zero_le _, Nat.zero_le _⟩ dX3_strikeQuarter_11 rfl rfl (fun H locs G => ?_)
  refine lv_if_eq (tgt := 19) hx hb dX3_strikeQuarter_14 (by decide) (fun c_1 => ?_) (fun c_1 => ?_)
  · skip
    refine lv_aload_n hx hb dX3_strikeQuarter_19 rfl (lv_at hl 0 rfl) ?_
    refine k_get (v := .ref (a 0)) S G 0 rfl rfl hiX3 0 (by decide) hf10 rfl dX3_strikeQuarter_20 ?_
    refine lv_aload_n hx hb dX3_strikeQuarter_23 rfl (lv_at hl 0 rfl) ?_
    refine k_get (v := .ref (a 0)) S G 0 rfl rfl hiX3 0 (by decide) hf10 rfl dX3_strikeQuarter_24 ?_
    refine k_get (v := .int (r 0)) S G 2 rfl rfl hiX0 3 (by decide) hf83 rfl dX3_strikeQuarter_27 ?_
    refine k_callV (n := 1) (As := [.int (r 0)]) (rest := []) (st1 := [.int (s_X0_hushesAt r (r 0))]) (ws1 := ((x, .inr (3, [.ref (a 0), .ref sv, .ref tl, .ref er, .int sc])) :: (er, .inl (cI, 3, .inl z)) :: stW cI a r e ([]))) S G (c_X0_hushesAt l D cI cS a r e (r 0)) gX3_strikeQuarter_X0_hushesAt rfl (by decide +kernel) ⟨⟨rfl, rfl⟩, Nat.le_of_ble_eq_true rfl, Nat.le_of_ble_eq_true rfl⟩ [2, 3, 4, 5, 6, 7, 8] (by decide) rfl [(a 0), (a 1), (a 2), (a 3), (a 4), (a 5), (a 6)] rfl rfl 2 rfl rfl rfl hl.1 rfl (Nat.le_of_ble_eq_true rfl) ⟨Nat.zero_le _, Nat.zero_le _⟩ dX3_strikeQuarter_30 rfl rfl (fun H locs G => ?_)
    refine lv_istore_n (lv' := [(1, .int (s_X0_hushesAt r (r 0))), (0, .ref x)]) hx hb dX3_strikeQuarter_33 rfl hl (by decide) rfl (fun ls hl => ?_)
    refine lv_aload_n hx hb dX3_strikeQuarter_34 rfl (lv_at hl 1 rfl) ?_
    refine lv_aload_n hx hb dX3_strikeQuarter_35 rfl (lv_at hl 1 rfl) ?_
    refine k_get (v := .ref (a 0)) S G 0 rfl rfl hiX3 0 (by decide) hf10 rfl dX3_strikeQuarter_36 ?_
    refine k_get (v := .ref (a 2)) S G 2 rfl rfl hiX0 1 (by decide) hf171 rfl dX3_strikeQuarter_39 ?_
    refine lv_aload_n hx hb dX3_strikeQuarter_42 rfl (lv_at hl 1 rfl) ?_
    refine k_get (v := .ref (a 0)) S G 0 rfl rfl hiX3 0 (by decide) hf10 rfl dX3_strikeQuarter_43 ?_
    refine k_get (v := .ref (a 2)) S G 2 rfl rfl hiX0 1 (by decide) hf171 rfl dX3_strikeQuarter_46 ?_
    refine lv_aload_n hx hb dX3_strikeQuarter_49 rfl (lv_at hl 1 rfl) ?_
    refine k_get (v := .ref (a 0)) S G 0 rfl rfl hiX3 0 (by decide) hf10 rfl dX3_strikeQuarter_50 ?_
    refine k_get (v := .int (r 0)) S G 2 rfl rfl hiX0 3 (by decide) hf83 rfl dX3_strikeQuarter_53 ?_
    refine k_callV (n := 1) (As := [.int (r 0)]) (rest := [.ref (a 2), .ref x]) (st1 := [.int (s_X2_dueAt 1 (r 0)), .ref (a 2), .ref x]) (ws1 := ((x, .inr (3, [.ref (a 0), .ref sv, .ref tl, .ref er, .int sc])) :: (er, .inl (cI, 3, .inl z)) :: stW cI a r e ([]))) S G (c_X2_dueAt l D cI cS (a 2) 1 (r 9) (r 10) (r 11) (r 12) (r 13) (r 0)) gX3_strikeQuarter_X2_dueAt rfl (by decide +kernel) ⟨⟨rfl, rfl⟩, Nat.le_of_ble_eq_true rfl, Nat.le_of_ble_eq_true rfl⟩ [4] (by decide) rfl [(a 2)] rfl rfl 4 rfl rfl rfl hl.1 rfl (Nat.le_of_ble_eq_true rfl) ⟨Nat.zero_le _, Nat.zero_le _⟩ dX3_strikeQuarter_56 rfl rfl (fun H locs G => ?_)
    refine lv_iload_n hx hb dX3_strikeQuarter_59 rfl (lv_at hl 0 rfl) ?_
    refine k_callV (n := 3) (As := [.ref (a 2), .int (s_X2_dueAt 1 (r 0)), .int (s_X0_hushesAt r (r 0))]) (rest := []) (st1 := [.int ((s_X3_release_q r e (s_X2_dueAt 1 (r 0)) (s_X0_hushesAt r (r 0))).1)]) (ws1 := ((x, .inr (3, [.ref (a 0), .ref sv, .ref tl, .ref er, .int sc])) :: (er, .inl (cI, 3, .inl z)) :: stW cI a ((s_X3_release_q r e (s_X2_dueAt 1 (r 0)) (s_X0_hushesAt r (r 0))).2.1) ((s_X3_release_q r e (s_X2_dueAt 1 (r 0)) (s_X0_hushesAt r (r 0))).2.2) ([]))) S G (c_X3_release_q l D cI cS x sv tl er sc z a r e (s_X2_dueAt 1 (r 0)) (s_X0_hushesAt r (r 0))) gX3_strikeQuarter_X3_release rfl (by decide +kernel) ⟨⟨rfl, rfl⟩, Nat.le_of_ble_eq_true rfl, Nat.le_of_ble_eq_true rfl⟩ [0, 1, 2, 3, 4, 5, 6, 7, 8] (by decide) rfl [x, er, (a 0), (a 1), (a 2), (a 3), (a 4), (a 5), (a 6)] rfl rfl 0 rfl rfl rfl hl.1 rfl (Nat.le_of_ble_eq_true rfl) ⟨Nat.zero_le _, Nat.zero_le _⟩ dX3_strikeQuarter_60 rfl rfl (fun H locs G => ?_)
    generalize hu1 : (s_X3_release_q r e (s_X2_dueAt 1 (r 0)) (s_X0_hushesAt r (r 0))) = u1 at G ⊢
    refine lv_istore_n (lv' := [(2, .int u1.1), (1, .int (s_X0_hushesAt r (r 0))), (0, .ref x)]) hx hb dX3_strikeQuarter_63 rfl hl (by decide) rfl (fun ls hl => ?_)
    refine lv_aload_n hx hb dX3_strikeQuarter_64 rfl (lv_at hl 2 rfl) ?_
    refine k_get (v := .ref (a 0)) S G 0 rfl rfl hiX3 0 (by decide) hf10 rfl dX3_strikeQuarter_65 ?_
    refine k_get (v := .ref (a 1)) S G 2 rfl rfl hiX0 0 (by decide) hf174 rfl dX3_strikeQuarter_68 ?_
    refine lv_aload_n hx hb dX3_strikeQuarter_71 rfl (lv_at hl 2 rfl) ?_
    refine k_get (v := .ref (a 0)) S G 0 rfl rfl hiX3 0 (by decide) hf10 rfl dX3_strikeQuarter_72 ?_
    refine k_get (v := .int (u1.2.1 0)) S G 2 rfl rfl hiX0 3 (by decide) hf83 rfl dX3_strikeQuarter_75 ?_
    refine k_callV (n := 1) (As := [.int (u1.2.1 0)]) (rest := []) (st1 := [.int (s_X2_isReleasedAt 0 (u1.2.1 0))]) (ws1 := ((x, .inr (3, [.ref (a 0), .ref sv, .ref tl, .ref er, .int sc])) :: (er, .inl (cI, 3, .inl z)) :: stW cI a u1.2.1 u1.2.2 ([]))) S G (c_X2_isReleasedAt l D cI cS (a 1) 0 (u1.2.1 4) (u1.2.1 5) (u1.2.1 6) (u1.2.1 7) (u1.2.1 8) (u1.2.1 0)) gX3_strikeQuarter_X2_isReleasedAt rfl (by decide +kernel) ⟨⟨rfl, rfl⟩, Nat.le_of_ble_eq_true rfl, Nat.le_of_ble_eq_true rfl⟩ [3] (by decide) rfl [(a 1)] rfl rfl 3 rfl rfl rfl hl.1 rfl (Nat.le_of_ble_eq_true rfl) ⟨Nat.zero_le _, Nat.zero_le _⟩ dX3_strikeQuarter_78 rfl rfl (fun H locs G => ?_)
    refine lv_if_eq (tgt := 116) hx hb dX3_strikeQuarter_81 (by decide) (fun c_2 => ?_) (fun c_2 => ?_)
    · skip
      refine lv_iload_n hx hb dX3_strikeQuarter_116 rfl (lv_at hl 0 rfl) ?_
      have es : (s_X3_strikeQuarter r e) = (u1.1, u1.2.1, u1.2.2) := by rw [s_X3_strikeQuarter, hu1, if_pos c_1, if_pos c_2]
      exact k_iret S G hr hlk dX3_strikeQuarter_117 (by first | (rw [es]; done) | (rw [es]; rfl) | (simp only [es]; done) | (simp only [es]; rfl)) (by first | (rw [es]; done) | (rw [es]; rfl) | (simp only [es]; done) | (simp only [es]; rfl))
    · skip
      refine lv_iload_n hx hb dX3_strikeQuarter_84 rfl (lv_at hl 0 rfl) ?_
      refine lv_aload_n hx hb dX3_strikeQuarter_85 rfl (lv_at hl 2 rfl) ?_
      refine lv_aload_n hx hb dX3_strikeQuarter_86 rfl (lv_at hl 2 rfl) ?_
      refine k_get (v := .ref (a 0)) S G 0 rfl rfl hiX3 0 (by decide) hf10 rfl dX3_strikeQuarter_87 ?_
      refine k_get (v := .ref (a 1)) S G 2 rfl rfl hiX0 0 (by decide) hf174 rfl dX3_strikeQuarter_90 ?_
      refine lv_aload_n hx hb dX3_strikeQuarter_93 rfl (lv_at hl 2 rfl) ?_
      refine k_get (v := .ref (a 0)) S G 0 rfl rfl hiX3 0 (by decide) hf10 rfl dX3_strikeQuarter_94 ?_
      refine k_get (v := .ref (a 1)) S G 2 rfl rfl hiX0 0 (by decide) hf174 rfl dX3_strikeQuarter_97 ?_
      refine lv_aload_n hx hb dX3_strikeQuarter_100 rfl (lv_at hl 2 rfl) ?_
      refine k_get (v := .ref (a 0)) S G 0 rfl rfl hiX3 0 (by decide) hf10 rfl dX3_strikeQuarter_101 ?_
      refine k_get (v := .int (u1.2.1 0)) S G 2 rfl rfl hiX0 3 (by decide) hf83 rfl dX3_strikeQuarter_104 ?_
      refine k_callV (n := 1) (As := [.int (u1.2.1 0)]) (rest := [.ref (a 1), .ref x, .int u1.1]) (st1 := [.int (s_X2_dueAt 0 (u1.2.1 0)), .ref (a 1), .ref x, .int u1.1]) (ws1 := ((x, .inr (3, [.ref (a 0), .ref sv, .ref tl, .ref er, .int sc])) :: (er, .inl (cI, 3, .inl z)) :: stW cI a u1.2.1 u1.2.2 ([]))) S G (c_X2_dueAt l D cI cS (a 1) 0 (u1.2.1 4) (u1.2.1 5) (u1.2.1 6) (u1.2.1 7) (u1.2.1 8) (u1.2.1 0)) gX3_strikeQuarter_X2_dueAt rfl (by decide +kernel) ⟨⟨rfl, rfl⟩, Nat.le_of_ble_eq_true rfl, Nat.le_of_ble_eq_true rfl⟩ [3] (by decide) rfl [(a 1)] rfl rfl 3 rfl rfl rfl hl.1 rfl (Nat.le_of_ble_eq_true rfl) ⟨Nat.zero_le _, Nat.zero_le _⟩ dX3_strikeQuarter_107 rfl rfl (fun H locs G => ?_)
      refine lv_iload_n hx hb dX3_strikeQuarter_110 rfl (lv_at hl 1 rfl) ?_
      refine k_callV (n := 3) (As := [.ref (a 1), .int (s_X2_dueAt 0 (u1.2.1 0)), .int (s_X0_hushesAt r (r 0))]) (rest := [.int u1.1]) (st1 := [.int ((s_X3_release_h u1.2.1 u1.2.2 (s_X2_dueAt 0 (u1.2.1 0)) (s_X0_hushesAt r (r 0))).1), .int u1.1]) (ws1 := ((x, .inr (3, [.ref (a 0), .ref sv, .ref tl, .ref er, .int sc])) :: (er, .inl (cI, 3, .inl z)) :: stW cI a ((s_X3_release_h u1.2.1 u1.2.2 (s_X2_dueAt 0 (u1.2.1 0)) (s_X0_hushesAt r (r 0))).2.1) ((s_X3_release_h u1.2.1 u1.2.2 (s_X2_dueAt 0 (u1.2.1 0)) (s_X0_hushesAt r (r 0))).2.2) ([]))) S G (c_X3_release_h l D cI cS x sv tl er sc z a u1.2.1 u1.2.2 (s_X2_dueAt 0 (u1.2.1 0)) (s_X0_hushesAt r (r 0))) gX3_strikeQuarter_X3_release rfl (by decide +kernel) ⟨⟨rfl, rfl⟩, Nat.le_of_ble_eq_true rfl, Nat.le_of_ble_eq_true rfl⟩ [0, 1, 2, 3, 4, 5, 6, 7, 8] (by decide) rfl [x, er, (a 0), (a 1), (a 2), (a 3), (a 4), (a 5), (a 6)] rfl rfl 0 rfl rfl rfl hl.1 rfl (Nat.le_of_ble_eq_true rfl) ⟨Nat.zero_le _, Nat.zero_le _⟩ dX3_strikeQuarter_111 rfl rfl (fun H locs G => ?_)
      generalize hu2 : (s_X3_release_h u1.2.1 u1.2.2 (s_X2_dueAt 0 (u1.2.1 0)) (s_X0_hushesAt r (r 0))) = u2 at G ⊢
      refine lv_iadd hx hb dX3_strikeQuarter_114 ?_
      refine lv_istore_n (lv' := [(2, .int (u1.1 + u2.1)), (1, .int (s_X0_hushesAt r (r 0))), (0, .ref x)]) hx hb dX3_strikeQuarter_115 rfl hl (by decide) rfl (fun ls hl => ?_)
      refine lv_iload_n hx hb dX3_strikeQuarter_116 rfl (lv_at hl 0 rfl) ?_
      have es : (s_X3_strikeQuarter r e) = ((u1.1 + u2.1), u2.2.1, u2.2.2) := by rw [s_X3_strikeQuarter, hu1, hu2, if_pos c_1, if_neg c_2]
      exact k_iret S G hr hlk dX3_strikeQuarter_117 (by first | (rw [es]; done) | (rw [es]; rfl) | (simp only [es]; done) | (simp only [es]; rfl)) (by first | (rw [es]; done) | (rw [es]; rfl) | (simp only [es]; done) | (simp only [es]; rfl))
  · skip
    refine lv_iconst (v := 0) hx hb dX3_strikeQuarter_17 (by decide) ?_
    have es : (s_X3_strikeQuarter r e) = (0, r, e) := by rw [s_X3_strikeQuarter, if_neg c_1]
    exact k_iret S G hr hlk dX3_strikeQuarter_18 (by first | (rw [es]; done) | (rw [es]; rfl) | (simp only [es]; done) | (simp only [es]; rfl)) (by first | (rw [es]; done) | (rw [es]; rfl) | (simp only [es]; done) | (simp only [es]; rfl))
