def s_X3_setMechanism (sc : Int32) (z : Nat → Int32) (r : Nat → Int32) (e : Nat → Nat → Int32) (sa : Nat → Nat → Nat) (sr : Nat → Nat → Int32) (se : Nat → Nat → Nat → Int32) (tn : Int32) (q : Int32) : Int32 × Int32 × (Nat → Int32) × (Nat → Int32) × (Nat → Nat → Nat) × (Nat → Nat → Int32) × (Nat → Nat → Nat → Int32) := (if tn = 0 then (if q < 0 then ((-2), sc, (upd z 0 ((z 0) + 1)), r, sa, sr, se) else (if q ≤ 2 then ((r 4), (sSc sc), z, (upd r 4 q), (sSa sc sa), (sSr sc sr r), (sSe sc se e)) else ((-2), sc, (upd z 0 ((z 0) + 1)), r, sa, sr, se))) else (if tn = 1 then (if q < 0 then ((-2), sc, (upd z 0 ((z 0) + 1)), r, sa, sr, se) else (if q ≤ 2 then ((r 9), (sSc sc), z, (upd r 9 q), (sSa sc sa), (sSr sc sr r), (sSe sc se e)) else ((-2), sc, (upd z 0 ((z 0) + 1)), r, sa, sr, se))) else ((-2), sc, (upd z 0 ((z 0) + 1)), r, sa, sr, se)))
set_option maxHeartbeats 4000000 in
set_option maxRecDepth 100000 in
theorem c_X3_setMechanism (l : Launch) (D : va_G) (cI cS : ClassId) (x : Nat) (sv : Nat) (tl : Nat) (er : Nat) (sc : Int32) (z : Nat → Int32) (a : Nat → Nat) (r : Nat → Int32) (e : Nat → Nat → Int32) (n0 : Int32) (m0 : Int32) (p0 : Int32) (w0 : Int32) (s0 : Int32) (f0 : Int32) (sa : Nat → Nat → Nat) (sr : Nat → Nat → Int32) (se : Nat → Nat → Nat → Int32) (tn : Int32) (q : Int32) (hsc : scOk sc) : Ct l yX3_setMechanism wsX3_setMechanism ({ frames := 3, cells := 0, slots := 0, locals := 63 }) D (tyL cI cS) [.ref x, .int tn, .int q] ((x, .inr (3, [.ref (a 0), .ref sv, .ref tl, .ref er, .int sc])) :: (er, .inl (cI, 3, .inl z)) :: stW cI a r e ((tl, .inr (2, [.int n0, .int m0, .int p0, .int w0, .int s0, .int f0])) :: (sv, .inl (cS, 5, .inr (.inr (.inr (.inr (fun i => some (sa i 0))))))) :: svW cI sa sr se ([]))) (some (.int ((s_X3_setMechanism sc z r e sa sr se tn q).1))) ((x, .inr (3, [.ref (a 0), .ref sv, .ref tl, .ref er, .int ((s_X3_setMechanism sc z r e sa sr se tn q).2.1)])) :: (er, .inl (cI, 3, .inl ((s_X3_setMechanism sc z r e sa sr se tn q).2.2.1))) :: stW cI a ((s_X3_setMechanism sc z r e sa sr se tn q).2.2.2.1) e ((tl, .inr (2, [.int n0, .int m0, .int p0, .int w0, .int s0, .int f0])) :: (sv, .inl (cS, 5, .inr (.inr (.inr (.inr (fun i => some (((s_X3_setMechanism sc z r e sa sr se tn q).2.2.2.2.1) i 0))))))) :: svW cI ((s_X3_setMechanism sc z r e sa sr se tn q).2.2.2.2.1) ((s_X3_setMechanism sc z r e sa sr se tn q).2.2.2.2.2.1) ((s_X3_setMechanism sc z r e sa sr se tn q).2.2.2.2.2.2) ([]))) := by
  refine Ct.of (cc := cX3_setMechanism) (maxL := 5) (ret := (some .int)) (by decide) rfl (Nat.le_of_ble_eq_true rfl) ?_
  intro p ev s m args below meth c A ls S hr hlk G hl
  have hx := S.1
  have hb := S.2.1
  have hown : s.vm.findClass RX3 = some m.cls := S.2.2.2.1
  have hts := S.2.2.2.2
  have hl : lv_has ls 5 [(0, .ref x), (1, .int tn), (2, .int q)] := hl
  have hiX2 : ∀ w ∈ wsX20, w ∈ wsX3_setMechanism := by decide +kernel
  have hiX3 : ∀ w ∈ wsX30, w ∈ wsX3_setMechanism := by decide +kernel
  have hf10 := hts (.fieldLink RX3 10 "StrikingWork" "now" "LStrikingWork$State;") (by decide +kernel)
  have hf52 := hts (.fieldLink RX3 52 "StrikingWork$Train" "mechanism" "I") (by decide +kernel)
  by_cases c_1 : tn = 0
  · skip
    have hl : lv_has ls 5 [(0, .ref x), (1, .int 0), (2, .int q)] := by rw [← c_1]; exact hl
    refine lv_iload_n hx hb dX3_setMechanism_0 rfl (lv_at hl 1 rfl) ?_
    refine k_callS (n := 1) (As := [.int 0]) (rest := []) (st1 := [.int 1]) (ws1 := ((x, .inr (3, [.ref (a 0), .ref sv, .ref tl, .ref er, .int sc])) :: (er, .inl (cI, 3, .inl z)) :: stW cI a r e ((tl, .inr (2, [.int n0, .int m0, .int p0, .int w0, .int s0, .int f0])) :: (sv, .inl (cS, 5, .inr (.inr (.inr (.inr (fun i => some (sa i 0))))))) :: svW cI sa sr se ([])))) S G (c_X3_isTrain l D cI cS 0) gX3_setMechanism_X3_isTrain rfl (by decide +kernel) ⟨⟨rfl, rfl⟩, Nat.le_of_ble_eq_true rfl, Nat.le_of_ble_eq_true rfl⟩ [] (by decide) rfl [] rfl rfl rfl hl.1 rfl (Nat.le_of_ble_eq_true rfl) ⟨Nat.zero_le _, Nat.zero_le _⟩ dX3_setMechanism_1 (congrArg (fun z => Value.int z :: []) (by decide : (s_X3_isTrain 0) = 1)) rfl (fun H locs G => ?_)
    refine lv_if_eq (tgt := 16) hx hb dX3_setMechanism_4 (by decide) (fun c_2 => absurd c_2 (by decide)) (fun c_2 => ?_)
    refine lv_iload_n hx hb dX3_setMechanism_7 rfl (lv_at hl 2 rfl) ?_
    refine lv_if_lt (tgt := 16) hx hb dX3_setMechanism_8 (by decide) (fun c_3 => ?_) (fun c_3 => ?_)
    · skip
      refine lv_aload_n hx hb dX3_setMechanism_16 rfl (lv_at hl 0 rfl) ?_
      refine lv_bipush (v := (-2)) hx hb dX3_setMechanism_17 (by decide) ?_
      refine k_callV (n := 1) (As := [.int (-2)]) (rest := []) (st1 := [.int (-2)]) (ws1 := ((x, .inr (3, [.ref (a 0), .ref sv, .ref tl, .ref er, .int sc])) :: (er, .inl (cI, 3, .inl (upd z 0 ((z 0) + 1)))) :: stW cI a r e ((tl, .inr (2, [.int n0, .int m0, .int p0, .int w0, .int s0, .int f0])) :: (sv, .inl (cS, 5, .inr (.inr (.inr (.inr (fun i => some (sa i 0))))))) :: svW cI sa sr se ([])))) S G (c_X3_refuse_2 l D cI cS (a 0) x sv tl er sc z) gX3_setMechanism_X3_refuse rfl (by decide +kernel) ⟨⟨rfl, rfl⟩, Nat.le_of_ble_eq_true rfl, Nat.le_of_ble_eq_true rfl⟩ [0, 1] (by decide) rfl [x, er] rfl rfl 0 rfl rfl rfl hl.1 rfl (Nat.le_of_ble_eq_true rfl) ⟨Nat.zero_le _, Nat.zero_le _⟩ dX3_setMechanism_19 rfl rfl (fun H locs G => ?_)
      have es : (s_X3_setMechanism sc z r e sa sr se tn q) = ((-2), sc, (upd z 0 ((z 0) + 1)), r, sa, sr, se) := by rw [s_X3_setMechanism, if_pos c_1, if_pos c_3]
      exact k_iret S G hr hlk dX3_setMechanism_22 (by first | (rw [es]; done) | (rw [es]; rfl) | (simp only [es]; done) | (simp only [es]; rfl)) (by first | (rw [es]; done) | (rw [es]; rfl) | (simp only [es]; done) | (simp only [es]; rfl))
    · skip
      refine lv_iload_n hx hb dX3_setMechanism_11 rfl (lv_at hl 2 rfl) ?_
      refine lv_iconst (v := 2) hx hb dX3_setMechanism_12 (by decide) ?_
      refine lv_icmp_le (tgt := 23) hx hb dX3_setMechanism_13 (by decide) (fun c_4 => ?_) (fun c_4 => ?_)
      · skip
        refine lv_aload_n hx hb dX3_setMechanism_23 rfl (lv_at hl 0 rfl) ?_
        refine k_callA (n := 0) (As := []) (rest := []) (st1 := []) (ws1 := ((x, .inr (3, [.ref (a 0), .ref sv, .ref tl, .ref er, .int (sSc sc)])) :: (er, .inl (cI, 3, .inl z)) :: stW cI a r e ((tl, .inr (2, [.int n0, .int m0, .int p0, .int w0, .int s0, .int f0])) :: (sv, .inl (cS, 5, .inr (.inr (.inr (.inr (fun i => some ((sSa sc sa) i 0))))))) :: svW cI (sSa sc sa) (sSr sc sr r) (sSe sc se e) ([])))) S G (c_X3_save l D cI cS x sv tl er sc z a r e n0 m0 p0 w0 s0 f0 sa sr se hsc) gX3_setMechanism_X3_save rfl (by decide +kernel) ⟨⟨rfl, rfl⟩, Nat.le_of_ble_eq_true rfl, Nat.le_of_ble_eq_true rfl⟩ 0 rfl rfl rfl hl.1 rfl (Nat.le_of_ble_eq_true rfl) ⟨Nat.zero_le _, Nat.zero_le _⟩ dX3_setMechanism_24 rfl rfl (fun H locs G => ?_)
        refine lv_aload_n hx hb dX3_setMechanism_27 rfl (lv_at hl 0 rfl) ?_
        refine k_get (v := .ref (a 0)) S G 0 rfl rfl hiX3 0 (by decide) hf10 rfl dX3_setMechanism_28 ?_
        refine lv_iload_n hx hb dX3_setMechanism_31 rfl (lv_at hl 1 rfl) ?_
        refine k_callV (n := 1) (As := [.int 0]) (rest := []) (st1 := [.ref (a 1)]) (ws1 := ((x, .inr (3, [.ref (a 0), .ref sv, .ref tl, .ref er, .int (sSc sc)])) :: (er, .inl (cI, 3, .inl z)) :: stW cI a r e ((tl, .inr (2, [.int n0, .int m0, .int p0, .int w0, .int s0, .int f0])) :: (sv, .inl (cS, 5, .inr (.inr (.inr (.inr (fun i => some ((sSa sc sa) i 0))))))) :: svW cI (sSa sc sa) (sSr sc sr r) (sSe sc se e) ([])))) S G (c_X0_trainOf_0 l D cI cS a r e) gX3_setMechanism_X0_trainOf rfl (by decide +kernel) ⟨⟨rfl, rfl⟩, Nat.le_of_ble_eq_true rfl, Nat.le_of_ble_eq_true rfl⟩ [2, 3, 4, 5, 6, 7, 8] (by decide) rfl [(a 0), (a 1), (a 2), (a 3), (a 4), (a 5), (a 6)] rfl rfl 2 rfl rfl rfl hl.1 rfl (Nat.le_of_ble_eq_true rfl) ⟨Nat.zero_le _, Nat.zero_le _⟩ dX3_setMechanism_32 rfl rfl (fun H locs G => ?_)
        refine lv_astore_n (lv' := [(3, .ref (a 1)), (0, .ref x), (1, .int 0), (2, .int q)]) hx hb dX3_setMechanism_35 rfl hl (by decide) rfl (fun ls hl => ?_)
        refine lv_aload_n hx hb dX3_setMechanism_36 rfl (lv_at hl 0 rfl) ?_
        refine k_get (v := .int (r 4)) S G 3 rfl rfl hiX2 1 (by decide) hf52 rfl dX3_setMechanism_37 ?_
        refine lv_istore (lv' := [(4, .int (r 4)), (3, .ref (a 1)), (0, .ref x), (1, .int 0), (2, .int q)]) hx hb dX3_setMechanism_40 hl (by decide) rfl (fun ls hl => ?_)
        refine lv_aload_n hx hb dX3_setMechanism_42 rfl (lv_at hl 1 rfl) ?_
        refine lv_iload_n hx hb dX3_setMechanism_43 rfl (lv_at hl 4 rfl) ?_
        refine k_put (ws1 := ((x, .inr (3, [.ref (a 0), .ref sv, .ref tl, .ref er, .int (sSc sc)])) :: (er, .inl (cI, 3, .inl z)) :: stW cI a (upd r 4 q) e ((tl, .inr (2, [.int n0, .int m0, .int p0, .int w0, .int s0, .int f0])) :: (sv, .inl (cS, 5, .inr (.inr (.inr (.inr (fun i => some ((sSa sc sa) i 0))))))) :: svW cI (sSa sc sa) (sSr sc sr r) (sSe sc se e) ([])))) S G 3 rfl rfl hiX2 tyX2 tyX2_ok nmX2 1 (by decide) hf52 rfl rfl rfl (Nat.le_of_ble_eq_true rfl) dX3_setMechanism_44 rfl (fun H locs G => ?_)
        refine lv_iload hx hb dX3_setMechanism_47 (lv_at hl 0 rfl) ?_
        have es : (s_X3_setMechanism sc z r e sa sr se tn q) = ((r 4), (sSc sc), z, (upd r 4 q), (sSa sc sa), (sSr sc sr r), (sSe sc se e)) := by rw [s_X3_setMechanism, if_pos c_1, if_neg c_3, if_pos c_4]
        exact k_iret S G hr hlk dX3_setMechanism_49 (by first | (rw [es]; done) | (rw [es]; rfl) | (simp only [es]; done) | (simp only [es]; rfl)) (by first | (rw [es]; done) | (rw [es]; rfl) | (simp only [es]; done) | (simp only [es]; rfl))
      · skip
        refine lv_aload_n hx hb dX3_setMechanism_16 rfl (lv_at hl 0 rfl) ?_
        refine lv_bipush (v := (-2)) hx hb dX3_setMechanism_17 (by decide) ?_
        refine k_callV (n := 1) (As := [.int (-2)]) (rest := []) (st1 := [.int (-2)]) (ws1 := ((x, .inr (3, [.ref (a 0), .ref sv, .ref tl, .ref er, .int sc])) :: (er, .inl (cI, 3, .inl (upd z 0 ((z 0) + 1)))) :: stW cI a r e ((tl, .inr (2, [.int n0, .int m0, .int p0, .int w0, .int s0, .int f0])) :: (sv, .inl (cS, 5, .inr (.inr (.inr (.inr (fun i => some (sa i 0))))))) :: svW cI sa sr se ([])))) S G (c_X3_refuse_2 l D cI cS (a 0) x sv tl er sc z) gX3_setMechanism_X3_refuse rfl (by decide +kernel) ⟨⟨rfl, rfl⟩, Nat.le_of_ble_eq_true rfl, Nat.le_of_ble_eq_true rfl⟩ [0, 1] (by decide) rfl [x, er] rfl rfl 0 rfl rfl rfl hl.1 rfl (Nat.le_of_ble_eq_true rfl) ⟨Nat.zero_le _, Nat.zero_le _⟩ dX3_setMechanism_19 rfl rfl (fun H locs G => ?_)
        have es : (s_X3_setMechanism sc z r e sa sr se tn q) = ((-2), sc, (upd z 0 ((z 0) + 1)), r, sa, sr, se) := by rw [s_X3_setMechanism, if_pos c_1, if_neg c_3, if_neg c_4]
        exact k_iret S G hr hlk dX3_setMechanism_22 (by first | (rw [es]; done) | (rw [es]; rfl) | (simp only [es]; done) | (simp only [es]; rfl)) (by first | (rw [es]; done) | (rw [es]; rfl) | (simp only [es]; done) | (simp only [es]; rfl))
  · skip
    by_cases c_5 : tn = 1
    · skip
      have hl : lv_has ls 5 [(0, .ref x), (1, .int 1), (2, .int q)] := by rw [← c_5]; exact hl
      refine lv_iload_n hx hb dX3_setMechanism_0 rfl (lv_at hl 1 rfl) ?_
      refine k_callS (n := 1) (As := [.int 1]) (rest := []) (st1 := [.int 1]) (ws1 := ((x, .inr (3, [.ref (a 0), .ref sv, .ref tl, .ref er, .int sc])) :: (er, .inl (cI, 3, .inl z)) :: stW cI a r e ((tl, .inr (2, [.int n0, .int m0, .int p0, .int w0, .int s0, .int f0])) :: (sv, .inl (cS, 5, .inr (.inr (.inr (.inr (fun i => some (sa i 0))))))) :: svW cI sa sr se ([])))) S G (c_X3_isTrain l D cI cS 1) gX3_setMechanism_X3_isTrain rfl (by decide +kernel) ⟨⟨rfl, rfl⟩, Nat.le_of_ble_eq_true rfl, Nat.le_of_ble_eq_true rfl⟩ [] (by decide) rfl [] rfl rfl rfl hl.1 rfl (Nat.le_of_ble_eq_true rfl) ⟨Nat.zero_le _, Nat.zero_le _⟩ dX3_setMechanism_1 (congrArg (fun z => Value.int z :: []) (by decide : (s_X3_isTrain 1) = 1)) rfl (fun H locs G => ?_)
      refine lv_if_eq (tgt := 16) hx hb dX3_setMechanism_4 (by decide) (fun c_6 => absurd c_6 (by decide)) (fun c_6 => ?_)
      refine lv_iload_n hx hb dX3_setMechanism_7 rfl (lv_at hl 2 rfl) ?_
      refine lv_if_lt (tgt := 16) hx hb dX3_setMechanism_8 (by decide) (fun c_7 => ?_) (fun c_7 => ?_)
      · skip
        refine lv_aload_n hx hb dX3_setMechanism_16 rfl (lv_at hl 0 rfl) ?_
        refine lv_bipush (v := (-2)) hx hb dX3_setMechanism_17 (by decide) ?_
        refine k_callV (n := 1) (As := [.int (-2)]) (rest := []) (st1 := [.int (-2)]) (ws1 := ((x, .inr (3, [.ref (a 0), .ref sv, .ref tl, .ref er, .int sc])) :: (er, .inl (cI, 3, .inl (upd z 0 ((z 0) + 1)))) :: stW cI a r e ((tl, .inr (2, [.int n0, .int m0, .int p0, .int w0, .int s0, .int f0])) :: (sv, .inl (cS, 5, .inr (.inr (.inr (.inr (fun i => some (sa i 0))))))) :: svW cI sa sr se ([])))) S G (c_X3_refuse_2 l D cI cS (a 0) x sv tl er sc z) gX3_setMechanism_X3_refuse rfl (by decide +kernel) ⟨⟨rfl, rfl⟩, Nat.le_of_ble_eq_true rfl, Nat.le_of_ble_eq_true rfl⟩ [0, 1] (by decide) rfl [x, er] rfl rfl 0 rfl rfl rfl hl.1 rfl (Nat.le_of_ble_eq_true rfl) ⟨Nat.zero_le _, Nat.zero_le _⟩ dX3_setMechanism_19 rfl rfl (fun H locs G => ?_)
        have es : (s_X3_setMechanism sc z r e sa sr se tn q) = ((-2), sc, (upd z 0 ((z 0) + 1)), r, sa, sr, se) := by rw [s_X3_setMechanism, if_neg c_1, if_pos c_5, if_pos c_7]
        exact k_iret S G hr hlk dX3_setMechanism_22 (by first | (rw [es]; done) | (rw [es]; rfl) | (simp only [es]; done) | (simp only [es]; rfl)) (by first | (rw [es]; done) | (rw [es]; rfl) | (simp only [es]; done) | (simp only [es]; rfl))
      · skip
        refine lv_iload_n hx hb dX3_setMechanism_11 rfl (lv_at hl 2 rfl) ?_
        refine lv_iconst (v := 2) hx hb dX3_setMechanism_12 (by decide) ?_
        refine lv_icmp_le (tgt := 23) hx hb dX3_setMechanism_13 (by decide) (fun c_8 => ?_) (fun c_8 => ?_)
        · skip
          refine lv_aload_n hx hb dX3_setMechanism_23 rfl (lv_at hl 0 rfl) ?_
          refine k_callA (n := 0) (As := []) (rest := []) (st1 := []) (ws1 := ((x, .inr (3, [.ref (a 0), .ref sv, .ref tl, .ref er, .int (sSc sc)])) :: (er, .inl (cI, 3, .inl z)) :: stW cI a r e ((tl, .inr (2, [.int n0, .int m0, .int p0, .int w0, .int s0, .int f0])) :: (sv, .inl (cS, 5, .inr (.inr (.inr (.inr (fun i => some ((sSa sc sa) i 0))))))) :: svW cI (sSa sc sa) (sSr sc sr r) (sSe sc se e) ([])))) S G (c_X3_save l D cI cS x sv tl er sc z a r e n0 m0 p0 w0 s0 f0 sa sr se hsc) gX3_setMechanism_X3_save rfl (by decide +kernel) ⟨⟨rfl, rfl⟩, Nat.le_of_ble_eq_true rfl, Nat.le_of_ble_eq_true rfl⟩ 0 rfl rfl rfl hl.1 rfl (Nat.le_of_ble_eq_true rfl) ⟨Nat.zero_le _, Nat.zero_le _⟩ dX3_setMechanism_24 rfl rfl (fun H locs G => ?_)
          refine lv_aload_n hx hb dX3_setMechanism_27 rfl (lv_at hl 0 rfl) ?_
          refine k_get (v := .ref (a 0)) S G 0 rfl rfl hiX3 0 (by decide) hf10 rfl dX3_setMechanism_28 ?_
          refine lv_iload_n hx hb dX3_setMechanism_31 rfl (lv_at hl 1 rfl) ?_
          refine k_callV (n := 1) (As := [.int 1]) (rest := []) (st1 := [.ref (a 2)]) (ws1 := ((x, .inr (3, [.ref (a 0), .ref sv, .ref tl, .ref er, .int (sSc sc)])) :: (er, .inl (cI, 3, .inl z)) :: stW cI a r e ((tl, .inr (2, [.int n0, .int m0, .int p0, .int w0, .int s0, .int f0])) :: (sv, .inl (cS, 5, .inr (.inr (.inr (.inr (fun i => some ((sSa sc sa) i 0))))))) :: svW cI (sSa sc sa) (sSr sc sr r) (sSe sc se e) ([])))) S G (c_X0_trainOf_1 l D cI cS a r e) gX3_setMechanism_X0_trainOf rfl (by decide +kernel) ⟨⟨rfl, rfl⟩, Nat.le_of_ble_eq_true rfl, Nat.le_of_ble_eq_true rfl⟩ [2, 3, 4, 5, 6, 7, 8] (by decide) rfl [(a 0), (a 1), (a 2), (a 3), (a 4), (a 5), (a 6)] rfl rfl 2 rfl rfl rfl hl.1 rfl (Nat.le_of_ble_eq_true rfl) ⟨Nat.zero_le _, Nat.zero_le _⟩ dX3_setMechanism_32 rfl rfl (fun H locs G => ?_)
          refine lv_astore_n (lv' := [(3, .ref (a 2)), (0, .ref x), (1, .int 1), (2, .int q)]) hx hb dX3_setMechanism_35 rfl hl (by decide) rfl (fun ls hl => ?_)
          refine lv_aload_n hx hb dX3_setMechanism_36 rfl (lv_at hl 0 rfl) ?_
          refine k_get (v := .int (r 9)) S G 4 rfl rfl hiX2 1 (by decide) hf52 rfl dX3_setMechanism_37 ?_
          refine lv_istore (lv' := [(4, .int (r 9)), (3, .ref (a 2)), (0, .ref x), (1, .int 1), (2, .int q)]) hx hb dX3_setMechanism_40 hl (by decide) rfl (fun ls hl => ?_)
          refine lv_aload_n hx hb dX3_setMechanism_42 rfl (lv_at hl 1 rfl) ?_
          refine lv_iload_n hx hb dX3_setMechanism_43 rfl (lv_at hl 4 rfl) ?_
          refine k_put (ws1 := ((x, .inr (3, [.ref (a 0), .ref sv, .ref tl, .ref er, .int (sSc sc)])) :: (er, .inl (cI, 3, .inl z)) :: stW cI a (upd r 9 q) e ((tl, .inr (2, [.int n0, .int m0, .int p0, .int w0, .int s0, .int f0])) :: (sv, .inl (cS, 5, .inr (.inr (.inr (.inr (fun i => some ((sSa sc sa) i 0))))))) :: svW cI (sSa sc sa) (sSr sc sr r) (sSe sc se e) ([])))) S G 4 rfl rfl hiX2 tyX2 tyX2_ok nmX2 1 (by decide) hf52 rfl rfl rfl (Nat.le_of_ble_eq_true rfl) dX3_setMechanism_44 rfl (fun H locs G => ?_)
          refine lv_iload hx hb dX3_setMechanism_47 (lv_at hl 0 rfl) ?_
          have es : (s_X3_setMechanism sc z r e sa sr se tn q) = ((r 9), (sSc sc), z, (upd r 9 q), (sSa sc sa), (sSr sc sr r), (sSe sc se e)) := by rw [s_X3_setMechanism, if_neg c_1, if_pos c_5, if_neg c_7, if_pos c_8]
          exact k_iret S G hr hlk dX3_setMechanism_49 (by first | (rw [es]; done) | (rw [es]; rfl) | (simp only [es]; done) | (simp only [es]; rfl)) (by first | (rw [es]; done) | (rw [es]; rfl) | (simp only [es]; done) | (simp only [es]; rfl))
        · skip
          refine lv_aload_n hx hb dX3_setMechanism_16 rfl (lv_at hl 0 rfl) ?_
          refine lv_bipush (v := (-2)) hx hb dX3_setMechanism_17 (by decide) ?_
          refine k_callV (n := 1) (As := [.int (-2)]) (rest := []) (st1 := [.int (-2)]) (ws1 := ((x, .inr (3, [.ref (a 0), .ref sv, .ref tl, .ref er, .int sc])) :: (er, .inl (cI, 3, .inl (upd z 0 ((z 0) + 1)))) :: stW cI a r e ((tl, .inr (2, [.int n0, .int m0, .int p0, .int w0, .int s0, .int f0])) :: (sv, .inl (cS, 5, .inr (.inr (.inr (.inr (fun i => some (sa i 0))))))) :: svW cI sa sr se ([])))) S G (c_X3_refuse_2 l D cI cS (a 0) x sv tl er sc z) gX3_setMechanism_X3_refuse rfl (by decide +kernel) ⟨⟨rfl, rfl⟩, Nat.le_of_ble_eq_true rfl, Nat.le_of_ble_eq_true rfl⟩ [0, 1] (by decide) rfl [x, er] rfl rfl 0 rfl rfl rfl hl.1 rfl (Nat.le_of_ble_eq_true rfl) ⟨Nat.zero_le _, Nat.zero_le _⟩ dX3_setMechanism_19 rfl rfl (fun H locs G => ?_)
          have es : (s_X3_setMechanism sc z r e sa sr se tn q) = ((-2), sc, (upd z 0 ((z 0) + 1)), r, sa, sr, se) := by rw [s_X3_setMechanism, if_neg c_1, if_pos c_5, if_neg c_7, if_neg c_8]
          exact k_iret S G hr hlk dX3_setMechanism_22 (by first | (rw [es]; done) | (rw [es]; rfl) | (simp only [es]; done) | (simp only [es]; rfl)) (by first | (rw [es]; done) | (rw [es]; rfl) | (simp only [es]; done) | (simp only [es]; rfl))
    · skip
      refine lv_iload_n hx hb dX3_setMechanism_0 rfl (lv_at hl 1 rfl) ?_
      refine k_callS (n := 1) (As := [.int tn]) (rest := []) (st1 := [.int 0]) (ws1 := ((x, .inr (3, [.ref (a 0), .ref sv, .ref tl, .ref er, .int sc])) :: (er, .inl (cI, 3, .inl z)) :: stW cI a r e ((tl, .inr (2, [.int n0, .int m0, .int p0, .int w0, .int s0, .int f0])) :: (sv, .inl (cS, 5, .inr (.inr (.inr (.inr (fun i => some (sa i 0))))))) :: svW cI sa sr se ([])))) S G (c_X3_isTrain l D cI cS tn) gX3_setMechanism_X3_isTrain rfl (by decide +kernel) ⟨⟨rfl, rfl⟩, Nat.le_of_ble_eq_true rfl, Nat.le_of_ble_eq_true rfl⟩ [] (by decide) rfl [] rfl rfl rfl hl.1 rfl (Nat.le_of_ble_eq_true rfl) ⟨Nat.zero_le _, Nat.zero_le _⟩ dX3_setMechanism_1 (congrArg (fun z => Value.int z :: []) (by rw [s_X3_isTrain, if_neg c_1, if_neg c_5])) rfl (fun H locs G => ?_)
      refine lv_if_eq (tgt := 16) hx hb dX3_setMechanism_4 (by decide) (fun c_9 => ?_) (fun c_9 => absurd c_9 (by decide))
      refine lv_aload_n hx hb dX3_setMechanism_16 rfl (lv_at hl 0 rfl) ?_
      refine lv_bipush (v := (-2)) hx hb dX3_setMechanism_17 (by decide) ?_
      refine k_callV (n := 1) (As := [.int (-2)]) (rest := []) (st1 := [.int (-2)]) (ws1 := ((x, .inr (3, [.ref (a 0), .ref sv, .ref tl, .ref er, .int sc])) :: (er, .inl (cI, 3, .inl (upd z 0 ((z 0) + 1)))) :: stW cI a r e ((tl, .inr (2, [.int n0, .int m0, .int p0, .int w0, .int s0, .int f0])) :: (sv, .inl (cS, 5, .inr (.inr (.inr (.inr (fun i => some (sa i 0))))))) :: svW cI sa sr se ([])))) S G (c_X3_refuse_2 l D cI cS (a 0) x sv tl er sc z) gX3_setMechanism_X3_refuse rfl (by decide +kernel) ⟨⟨rfl, rfl⟩, Nat.le_of_ble_eq_true rfl, Nat.le_of_ble_eq_true rfl⟩ [0, 1] (by decide) rfl [x, er] rfl rfl 0 rfl rfl rfl hl.1 rfl (Nat.le_of_ble_eq_true rfl) ⟨Nat.zero_le _, Nat.zero_le _⟩ dX3_setMechanism_19 rfl rfl (fun H locs G => ?_)
      have es : (s_X3_setMechanism sc z r e sa sr se tn q) = ((-2), sc, (upd z 0 ((z 0) + 1)), r, sa, sr, se) := by rw [s_X3_setMechanism, if_neg c_1, if_neg c_5]
      exact k_iret S G hr hlk dX3_setMechanism_22 (by first | (rw [es]; done) | (rw [es]; rfl) | (simp only [es]; done) | (simp only [es]; rfl)) (by first | (rw [es]; done) | (rw [es]; rfl) | (simp only [es]; done) | (simp only [es]; rfl))
def s_X3_setPosition (sc : Int32) (z : Nat → Int32) (r : Nat → Int32) (e : Nat → Nat → Int32) (sa : Nat → Nat → Nat) (sr : Nat → Nat → Int32) (se : Nat → Nat → Nat → Int32) (tn : Int32) (q : Int32) : Int32 × Int32 × (Nat → Int32) × (Nat → Int32) × (Nat → Nat → Nat) × (Nat → Nat → Int32) × (Nat → Nat → Nat → Int32) := (if tn = 0 then (if q < 1 then ((-2), sc, (upd z 0 ((z 0) + 1)), r, sa, sr, se) else (if q ≤ (s_X2_lastPosition 0) then ((r 5), (sSc sc), z, (upd r 5 q), (sSa sc sa), (sSr sc sr r), (sSe sc se e)) else ((-2), sc, (upd z 0 ((z 0) + 1)), r, sa, sr, se))) else (if tn = 1 then (if q < 1 then ((-2), sc, (upd z 0 ((z 0) + 1)), r, sa, sr, se) else (if q ≤ (s_X2_lastPosition 1) then ((r 10), (sSc sc), z, (upd r 10 q), (sSa sc sa), (sSr sc sr r), (sSe sc se e)) else ((-2), sc, (upd z 0 ((z 0) + 1)), r, sa, sr, se))) else ((-2), sc, (upd z 0 ((z 0) + 1)), r, sa, sr, se)))
set_option maxHeartbeats 4000000 in
set_option maxRecDepth 100000 in
theorem c_X3_setPosition (l : Launch) (D : va_G) (cI cS : ClassId) (x : Nat) (sv : Nat) (tl : Nat) (er : Nat) (sc : Int32) (z : Nat → Int32) (a : Nat → Nat) (r : Nat → Int32) (e : Nat → Nat → Int32) (n0 : Int32) (m0 : Int32) (p0 : Int32) (w0 : Int32) (s0 : Int32) (f0 : Int32) (sa : Nat → Nat → Nat) (sr : Nat → Nat → Int32) (se : Nat → Nat → Nat → Int32) (tn : Int32) (q : Int32) (hsc : scOk sc) : Ct l yX3_setPosition wsX3_setPosition ({ frames := 3, cells := 0, slots := 0, locals := 63 }) D (tyL cI cS) [.ref x, .int tn, .int q] ((x, .inr (3, [.ref (a 0), .ref sv, .ref tl, .ref er, .int sc])) :: (er, .inl (cI, 3, .inl z)) :: stW cI a r e ((tl, .inr (2, [.int n0, .int m0, .int p0, .int w0, .int s0, .int f0])) :: (sv, .inl (cS, 5, .inr (.inr (.inr (.inr (fun i => some (sa i 0))))))) :: svW cI sa sr se ([]))) (some (.int ((s_X3_setPosition sc z r e sa sr se tn q).1))) ((x, .inr (3, [.ref (a 0), .ref sv, .ref tl, .ref er, .int ((s_X3_setPosition sc z r e sa sr se tn q).2.1)])) :: (er, .inl (cI, 3, .inl ((s_X3_setPosition sc z r e sa sr se tn q).2.2.1))) :: stW cI a ((s_X3_setPosition sc z r e sa sr se tn q).2.2.2.1) e ((tl, .inr (2, [.int n0, .int m0, .int p0, .int w0, .int s0, .int f0])) :: (sv, .inl (cS, 5, .inr (.inr (.inr (.inr (fun i => some (((s_X3_setPosition sc z r e sa sr se tn q).2.2.2.2.1) i 0))))))) :: svW cI ((s_X3_setPosition sc z r e sa sr se tn q).2.2.2.2.1) ((s_X3_setPosition sc z r e sa sr se tn q).2.2.2.2.2.1) ((s_X3_setPosition sc z r e sa sr se tn q).2.2.2.2.2.2) ([]))) := by
  refine Ct.of (cc := cX3_setPosition) (maxL := 5) (ret := (some .int)) (by decide) rfl (Nat.le_of_ble_eq_true rfl) ?_
  intro p ev s m args below meth c A ls S hr hlk G hl
  have hx := S.1
  have hb := S.2.1
  have hown : s.vm.findClass RX3 = some m.cls := S.2.2.2.1
  have hts := S.2.2.2.2
  have hl : lv_has ls 5 [(0, .ref x), (1, .int tn), (2, .int q)] := hl
  have hiX2 : ∀ w ∈ wsX20, w ∈ wsX3_setPosition := by decide +kernel
  have hiX3 : ∀ w ∈ wsX30, w ∈ wsX3_setPosition := by decide +kernel
  have hf10 := hts (.fieldLink RX3 10 "StrikingWork" "now" "LStrikingWork$State;") (by decide +kernel)
  have hf59 := hts (.fieldLink RX3 59 "StrikingWork$Train" "position" "I") (by decide +kernel)
  by_cases c_1 : tn = 0
  · skip
    have hl : lv_has ls 5 [(0, .ref x), (1, .int 0), (2, .int q)] := by rw [← c_1]; exact hl
    refine lv_iload_n hx hb dX3_setPosition_0 rfl (lv_at hl 1 rfl) ?_
    refine k_callS (n := 1) (As := [.int 0]) (rest := []) (st1 := [.int 1]) (ws1 := ((x, .inr (3, [.ref (a 0), .ref sv, .ref tl, .ref er, .int sc])) :: (er, .inl (cI, 3, .inl z)) :: stW cI a r e ((tl, .inr (2, [.int n0, .int m0, .int p0, .int w0, .int s0, .int f0])) :: (sv, .inl (cS, 5, .inr (.inr (.inr (.inr (fun i => some (sa i 0))))))) :: svW cI sa sr se ([])))) S G (c_X3_isTrain l D cI cS 0) gX3_setPosition_X3_isTrain rfl (by decide +kernel) ⟨⟨rfl, rfl⟩, Nat.le_of_ble_eq_true rfl, Nat.le_of_ble_eq_true rfl⟩ [] (by decide) rfl [] rfl rfl rfl hl.1 rfl (Nat.le_of_ble_eq_true rfl) ⟨Nat.zero_le _, Nat.zero_le _⟩ dX3_setPosition_1 (congrArg (fun z => Value.int z :: []) (by decide : (s_X3_isTrain 0) = 1)) rfl (fun H locs G => ?_)
    refine lv_if_eq (tgt := 27) hx hb dX3_setPosition_4 (by decide) (fun c_2 => absurd c_2 (by decide)) (fun c_2 => ?_)
    refine lv_iload_n hx hb dX3_setPosition_7 rfl (lv_at hl 2 rfl) ?_
    refine lv_iconst (v := 1) hx hb dX3_setPosition_8 (by decide) ?_
    refine lv_icmp_lt (tgt := 27) hx hb dX3_setPosition_9 (by decide) (fun c_3 => ?_) (fun c_3 => ?_)
    · skip
      refine lv_aload_n hx hb dX3_setPosition_27 rfl (lv_at hl 0 rfl) ?_
      refine lv_bipush (v := (-2)) hx hb dX3_setPosition_28 (by decide) ?_
      refine k_callV (n := 1) (As := [.int (-2)]) (rest := []) (st1 := [.int (-2)]) (ws1 := ((x, .inr (3, [.ref (a 0), .ref sv, .ref tl, .ref er, .int sc])) :: (er, .inl (cI, 3, .inl (upd z 0 ((z 0) + 1)))) :: stW cI a r e ((tl, .inr (2, [.int n0, .int m0, .int p0, .int w0, .int s0, .int f0])) :: (sv, .inl (cS, 5, .inr (.inr (.inr (.inr (fun i => some (sa i 0))))))) :: svW cI sa sr se ([])))) S G (c_X3_refuse_2 l D cI cS (a 0) x sv tl er sc z) gX3_setPosition_X3_refuse rfl (by decide +kernel) ⟨⟨rfl, rfl⟩, Nat.le_of_ble_eq_true rfl, Nat.le_of_ble_eq_true rfl⟩ [0, 1] (by decide) rfl [x, er] rfl rfl 0 rfl rfl rfl hl.1 rfl (Nat.le_of_ble_eq_true rfl) ⟨Nat.zero_le _, Nat.zero_le _⟩ dX3_setPosition_30 rfl rfl (fun H locs G => ?_)
      have es : (s_X3_setPosition sc z r e sa sr se tn q) = ((-2), sc, (upd z 0 ((z 0) + 1)), r, sa, sr, se) := by rw [s_X3_setPosition, if_pos c_1, if_pos c_3]
      exact k_iret S G hr hlk dX3_setPosition_33 (by first | (rw [es]; done) | (rw [es]; rfl) | (simp only [es]; done) | (simp only [es]; rfl)) (by first | (rw [es]; done) | (rw [es]; rfl) | (simp only [es]; done) | (simp only [es]; rfl))
    · skip
      refine lv_iload_n hx hb dX3_setPosition_12 rfl (lv_at hl 2 rfl) ?_
      refine lv_aload_n hx hb dX3_setPosition_13 rfl (lv_at hl 0 rfl) ?_
      refine k_get (v := .ref (a 0)) S G 0 rfl rfl hiX3 0 (by decide) hf10 rfl dX3_setPosition_14 ?_
      refine lv_iload_n hx hb dX3_setPosition_17 rfl (lv_at hl 1 rfl) ?_
      refine k_callV (n := 1) (As := [.int 0]) (rest := [.int q]) (st1 := [.ref (a 1), .int q]) (ws1 := ((x, .inr (3, [.ref (a 0), .ref sv, .ref tl, .ref er, .int sc])) :: (er, .inl (cI, 3, .inl z)) :: stW cI a r e ((tl, .inr (2, [.int n0, .int m0, .int p0, .int w0, .int s0, .int f0])) :: (sv, .inl (cS, 5, .inr (.inr (.inr (.inr (fun i => some (sa i 0))))))) :: svW cI sa sr se ([])))) S G (c_X0_trainOf_0 l D cI cS a r e) gX3_setPosition_X0_trainOf rfl (by decide +kernel) ⟨⟨rfl, rfl⟩, Nat.le_of_ble_eq_true rfl, Nat.le_of_ble_eq_true rfl⟩ [2, 3, 4, 5, 6, 7, 8] (by decide) rfl [(a 0), (a 1), (a 2), (a 3), (a 4), (a 5), (a 6)] rfl rfl 2 rfl rfl rfl hl.1 rfl (Nat.le_of_ble_eq_true rfl) ⟨Nat.zero_le _, Nat.zero_le _⟩ dX3_setPosition_18 rfl rfl (fun H locs G => ?_)
      refine k_callV (n := 0) (As := []) (rest := [.int q]) (st1 := [.int (s_X2_lastPosition 0), .int q]) (ws1 := ((x, .inr (3, [.ref (a 0), .ref sv, .ref tl, .ref er, .int sc])) :: (er, .inl (cI, 3, .inl z)) :: stW cI a r e ((tl, .inr (2, [.int n0, .int m0, .int p0, .int w0, .int s0, .int f0])) :: (sv, .inl (cS, 5, .inr (.inr (.inr (.inr (fun i => some (sa i 0))))))) :: svW cI sa sr se ([])))) S G (c_X2_lastPosition l D cI cS (a 1) 0 (r 4) (r 5) (r 6) (r 7) (r 8)) gX3_setPosition_X2_lastPosition rfl (by decide +kernel) ⟨⟨rfl, rfl⟩, Nat.le_of_ble_eq_true rfl, Nat.le_of_ble_eq_true rfl⟩ [3] (by decide) rfl [(a 1)] rfl rfl 3 rfl rfl rfl hl.1 rfl (Nat.le_of_ble_eq_true rfl) ⟨Nat.zero_le _, Nat.zero_le _⟩ dX3_setPosition_21 rfl rfl (fun H locs G => ?_)
      refine lv_icmp_le (tgt := 34) hx hb dX3_setPosition_24 (by decide) (fun c_4 => ?_) (fun c_4 => ?_)
      · skip
        refine lv_aload_n hx hb dX3_setPosition_34 rfl (lv_at hl 0 rfl) ?_
        refine k_callA (n := 0) (As := []) (rest := []) (st1 := []) (ws1 := ((x, .inr (3, [.ref (a 0), .ref sv, .ref tl, .ref er, .int (sSc sc)])) :: (er, .inl (cI, 3, .inl z)) :: stW cI a r e ((tl, .inr (2, [.int n0, .int m0, .int p0, .int w0, .int s0, .int f0])) :: (sv, .inl (cS, 5, .inr (.inr (.inr (.inr (fun i => some ((sSa sc sa) i 0))))))) :: svW cI (sSa sc sa) (sSr sc sr r) (sSe sc se e) ([])))) S G (c_X3_save l D cI cS x sv tl er sc z a r e n0 m0 p0 w0 s0 f0 sa sr se hsc) gX3_setPosition_X3_save rfl (by decide +kernel) ⟨⟨rfl, rfl⟩, Nat.le_of_ble_eq_true rfl, Nat.le_of_ble_eq_true rfl⟩ 0 rfl rfl rfl hl.1 rfl (Nat.le_of_ble_eq_true rfl) ⟨Nat.zero_le _, Nat.zero_le _⟩ dX3_setPosition_35 rfl rfl (fun H locs G => ?_)
        refine lv_aload_n hx hb dX3_setPosition_38 rfl (lv_at hl 0 rfl) ?_
        refine k_get (v := .ref (a 0)) S G 0 rfl rfl hiX3 0 (by decide) hf10 rfl dX3_setPosition_39 ?_
        refine lv_iload_n hx hb dX3_setPosition_42 rfl (lv_at hl 1 rfl) ?_
        refine k_callV (n := 1) (As := [.int 0]) (rest := []) (st1 := [.ref (a 1)]) (ws1 := ((x, .inr (3, [.ref (a 0), .ref sv, .ref tl, .ref er, .int (sSc sc)])) :: (er, .inl (cI, 3, .inl z)) :: stW cI a r e ((tl, .inr (2, [.int n0, .int m0, .int p0, .int w0, .int s0, .int f0])) :: (sv, .inl (cS, 5, .inr (.inr (.inr (.inr (fun i => some ((sSa sc sa) i 0))))))) :: svW cI (sSa sc sa) (sSr sc sr r) (sSe sc se e) ([])))) S G (c_X0_trainOf_0 l D cI cS a r e) gX3_setPosition_X0_trainOf rfl (by decide +kernel) ⟨⟨rfl, rfl⟩, Nat.le_of_ble_eq_true rfl, Nat.le_of_ble_eq_true rfl⟩ [2, 3, 4, 5, 6, 7, 8] (by decide) rfl [(a 0), (a 1), (a 2), (a 3), (a 4), (a 5), (a 6)] rfl rfl 2 rfl rfl rfl hl.1 rfl (Nat.le_of_ble_eq_true rfl) ⟨Nat.zero_le _, Nat.zero_le _⟩ dX3_setPosition_43 rfl rfl (fun H locs G => ?_)
        refine lv_astore_n (lv' := [(3, .ref (a 1)), (0, .ref x), (1, .int 0), (2, .int q)]) hx hb dX3_setPosition_46 rfl hl (by decide) rfl (fun ls hl => ?_)
        refine lv_aload_n hx hb dX3_setPosition_47 rfl (lv_at hl 0 rfl) ?_
        refine k_get (v := .int (r 5)) S G 3 rfl rfl hiX2 2 (by decide) hf59 rfl dX3_setPosition_48 ?_
        refine lv_istore (lv' := [(4, .int (r 5)), (3, .ref (a 1)), (0, .ref x), (1, .int 0), (2, .int q)]) hx hb dX3_setPosition_51 hl (by decide) rfl (fun ls hl => ?_)
        refine lv_aload_n hx hb dX3_setPosition_53 rfl (lv_at hl 1 rfl) ?_
        refine lv_iload_n hx hb dX3_setPosition_54 rfl (lv_at hl 4 rfl) ?_
        refine k_put (ws1 := ((x, .inr (3, [.ref (a 0), .ref sv, .ref tl, .ref er, .int (sSc sc)])) :: (er, .inl (cI, 3, .inl z)) :: stW cI a (upd r 5 q) e ((tl, .inr (2, [.int n0, .int m0, .int p0, .int w0, .int s0, .int f0])) :: (sv, .inl (cS, 5, .inr (.inr (.inr (.inr (fun i => some ((sSa sc sa) i 0))))))) :: svW cI (sSa sc sa) (sSr sc sr r) (sSe sc se e) ([])))) S G 3 rfl rfl hiX2 tyX2 tyX2_ok nmX2 2 (by decide) hf59 rfl rfl rfl (Nat.le_of_ble_eq_true rfl) dX3_setPosition_55 rfl (fun H locs G => ?_)
        refine lv_iload hx hb dX3_setPosition_58 (lv_at hl 0 rfl) ?_
        have es : (s_X3_setPosition sc z r e sa sr se tn q) = ((r 5), (sSc sc), z, (upd r 5 q), (sSa sc sa), (sSr sc sr r), (sSe sc se e)) := by rw [s_X3_setPosition, if_pos c_1, if_neg c_3, if_pos c_4]
        exact k_iret S G hr hlk dX3_setPosition_60 (by first | (rw [es]; done) | (rw [es]; rfl) | (simp only [es]; done) | (simp only [es]; rfl)) (by first | (rw [es]; done) | (rw [es]; rfl) | (simp only [es]; done) | (simp only [es]; rfl))
      · skip
        refine lv_aload_n hx hb dX3_setPosition_27 rfl (lv_at hl 0 rfl) ?_
        refine lv_bipush (v := (-2)) hx hb dX3_setPosition_28 (by decide) ?_
        refine k_callV (n := 1) (As := [.int (-2)]) (rest := []) (st1 := [.int (-2)]) (ws1 := ((x, .inr (3, [.ref (a 0), .ref sv, .ref tl, .ref er, .int sc])) :: (er, .inl (cI, 3, .inl (upd z 0 ((z 0) + 1)))) :: stW cI a r e ((tl, .inr (2, [.int n0, .int m0, .int p0, .int w0, .int s0, .int f0])) :: (sv, .inl (cS, 5, .inr (.inr (.inr (.inr (fun i => some (sa i 0))))))) :: svW cI sa sr se ([])))) S G (c_X3_refuse_2 l D cI cS (a 0) x sv tl er sc z) gX3_setPosition_X3_refuse rfl (by decide +kernel) ⟨⟨rfl, rfl⟩, Nat.le_of_ble_eq_true rfl, Nat.le_of_ble_eq_true rfl⟩ [0, 1] (by decide) rfl [x, er] rfl rfl 0 rfl rfl rfl hl.1 rfl (Nat.le_of_ble_eq_true rfl) ⟨Nat.zero_le _, Nat.zero_le _⟩ dX3_setPosition_30 rfl rfl (fun H locs G => ?_)
        have es : (s_X3_setPosition sc z r e sa sr se tn q) = ((-2), sc, (upd z 0 ((z 0) + 1)), r, sa, sr, se) := by rw [s_X3_setPosition, if_pos c_1, if_neg c_3, if_neg c_4]
        exact k_iret S G hr hlk dX3_setPosition_33 (by first | (rw [es]; done) | (rw [es]; rfl) | (simp only [es]; done) | (simp only [es]; rfl)) (by first | (rw [es]; done) | (rw [es]; rfl) | (simp only [es]; done) | (simp only [es]; rfl))
  · skip
    by_cases c_5 : tn = 1
    · skip
      have hl : lv_has ls 5 [(0, .ref x), (1, .int 1), (2, .int q)] := by rw [← c_5]; exact hl
      refine lv_iload_n hx hb dX3_setPosition_0 rfl (lv_at hl 1 rfl) ?_
      refine k_callS (n := 1) (As := [.int 1]) (rest := []) (st1 := [.int 1]) (ws1 := ((x, .inr (3, [.ref (a 0), .ref sv, .ref tl, .ref er, .int sc])) :: (er, .inl (cI, 3, .inl z)) :: stW cI a r e ((tl, .inr (2, [.int n0, .int m0, .int p0, .int w0, .int s0, .int f0])) :: (sv, .inl (cS, 5, .inr (.inr (.inr (.inr (fun i => some (sa i 0))))))) :: svW cI sa sr se ([])))) S G (c_X3_isTrain l D cI cS 1) gX3_setPosition_X3_isTrain rfl (by decide +kernel) ⟨⟨rfl, rfl⟩, Nat.le_of_ble_eq_true rfl, Nat.le_of_ble_eq_true rfl⟩ [] (by decide) rfl [] rfl rfl rfl hl.1 rfl (Nat.le_of_ble_eq_true rfl) ⟨Nat.zero_le _, Nat.zero_le _⟩ dX3_setPosition_1 (congrArg (fun z => Value.int z :: []) (by decide : (s_X3_isTrain 1) = 1)) rfl (fun H locs G => ?_)
      refine lv_if_eq (tgt := 27) hx hb dX3_setPosition_4 (by decide) (fun c_6 => absurd c_6 (by decide)) (fun c_6 => ?_)
      refine lv_iload_n hx hb dX3_setPosition_7 rfl (lv_at hl 2 rfl) ?_
      refine lv_iconst (v := 1) hx hb dX3_setPosition_8 (by decide) ?_
      refine lv_icmp_lt (tgt := 27) hx hb dX3_setPosition_9 (by decide) (fun c_7 => ?_) (fun c_7 => ?_)
      · skip
        refine lv_aload_n hx hb dX3_setPosition_27 rfl (lv_at hl 0 rfl) ?_
        refine lv_bipush (v := (-2)) hx hb dX3_setPosition_28 (by decide) ?_
        refine k_callV (n := 1) (As := [.int (-2)]) (rest := []) (st1 := [.int (-2)]) (ws1 := ((x, .inr (3, [.ref (a 0), .ref sv, .ref tl, .ref er, .int sc])) :: (er, .inl (cI, 3, .inl (upd z 0 ((z 0) + 1)))) :: stW cI a r e ((tl, .inr (2, [.int n0, .int m0, .int p0, .int w0, .int s0, .int f0])) :: (sv, .inl (cS, 5, .inr (.inr (.inr (.inr (fun i => some (sa i 0))))))) :: svW cI sa sr se ([])))) S G (c_X3_refuse_2 l D cI cS (a 0) x sv tl er sc z) gX3_setPosition_X3_refuse rfl (by decide +kernel) ⟨⟨rfl, rfl⟩, Nat.le_of_ble_eq_true rfl, Nat.le_of_ble_eq_true rfl⟩ [0, 1] (by decide) rfl [x, er] rfl rfl 0 rfl rfl rfl hl.1 rfl (Nat.le_of_ble_eq_true rfl) ⟨Nat.zero_le _, Nat.zero_le _⟩ dX3_setPosition_30 rfl rfl (fun H locs G => ?_)
        have es : (s_X3_setPosition sc z r e sa sr se tn q) = ((-2), sc, (upd z 0 ((z 0) + 1)), r, sa, sr, se) := by rw [s_X3_setPosition, if_neg c_1, if_pos c_5, if_pos c_7]
        exact k_iret S G hr hlk dX3_setPosition_33 (by first | (rw [es]; done) | (rw [es]; rfl) | (simp only [es]; done) | (simp only [es]; rfl)) (by first | (rw [es]; done) | (rw [es]; rfl) | (simp only [es]; done) | (simp only [es]; rfl))
      · skip
        refine lv_iload_n hx hb dX3_setPosition_12 rfl (lv_at hl 2 rfl) ?_
        refine lv_aload_n hx hb dX3_setPosition_13 rfl (lv_at hl 0 rfl) ?_
        refine k_get (v := .ref (a 0)) S G 0 rfl rfl hiX3 0 (by decide) hf10 rfl dX3_setPosition_14 ?_
        refine lv_iload_n hx hb dX3_setPosition_17 rfl (lv_at hl 1 rfl) ?_
        refine k_callV (n := 1) (As := [.int 1]) (rest := [.int q]) (st1 := [.ref (a 2), .int q]) (ws1 := ((x, .inr (3, [.ref (a 0), .ref sv, .ref tl, .ref er, .int sc])) :: (er, .inl (cI, 3, .inl z)) :: stW cI a r e ((tl, .inr (2, [.int n0, .int m0, .int p0, .int w0, .int s0, .int f0])) :: (sv, .inl (cS, 5, .inr (.inr (.inr (.inr (fun i => some (sa i 0))))))) :: svW cI sa sr se ([])))) S G (c_X0_trainOf_1 l D cI cS a r e) gX3_setPosition_X0_trainOf rfl (by decide +kernel) ⟨⟨rfl, rfl⟩, Nat.le_of_ble_eq_true rfl, Nat.le_of_ble_eq_true rfl⟩ [2, 3, 4, 5, 6, 7, 8] (by decide) rfl [(a 0), (a 1), (a 2), (a 3), (a 4), (a 5), (a 6)] rfl rfl 2 rfl rfl rfl hl.1 rfl (Nat.le_of_ble_eq_true rfl) ⟨Nat.zero_le _, Nat.zero_le _⟩ dX3_setPosition_18 rfl rfl (fun H locs G => ?_)
        refine k_callV (n := 0) (As := []) (rest := [.int q]) (st1 := [.int (s_X2_lastPosition 1), .int q]) (ws1 := ((x, .inr (3, [.ref (a 0), .ref sv, .ref tl, .ref er, .int sc])) :: (er, .inl (cI, 3, .inl z)) :: stW cI a r e ((tl, .inr (2, [.int n0, .int m0, .int p0, .int w0, .int s0, .int f0])) :: (sv, .inl (cS, 5, .inr (.inr (.inr (.inr (fun i => some (sa i 0))))))) :: svW cI sa sr se ([])))) S G (c_X2_lastPosition l D cI cS (a 2) 1 (r 9) (r 10) (r 11) (r 12) (r 13)) gX3_setPosition_X2_lastPosition rfl (by decide +kernel) ⟨⟨rfl, rfl⟩, Nat.le_of_ble_eq_true rfl, Nat.le_of_ble_eq_true rfl⟩ [4] (by decide) rfl [(a 2)] rfl rfl 4 rfl rfl rfl hl.1 rfl (Nat.le_of_ble_eq_true rfl) ⟨Nat.zero_le _, Nat.zero_le _⟩ dX3_setPosition_21 rfl rfl (fun H locs G => ?_)
        refine lv_icmp_le (tgt := 34) hx hb dX3_setPosition_24 (by decide) (fun c_8 => ?_) (fun c_8 => ?_)
        · skip
          refine lv_aload_n hx hb dX3_setPosition_34 rfl (lv_at hl 0 rfl) ?_
          refine k_callA (n := 0) (As := []) (rest := []) (st1 := []) (ws1 := ((x, .inr (3, [.ref (a 0), .ref sv, .ref tl, .ref er, .int (sSc sc)])) :: (er, .inl (cI, 3, .inl z)) :: stW cI a r e ((tl, .inr (2, [.int n0, .int m0, .int p0, .int w0, .int s0, .int f0])) :: (sv, .inl (cS, 5, .inr (.inr (.inr (.inr (fun i => some ((sSa sc sa) i 0))))))) :: svW cI (sSa sc sa) (sSr sc sr r) (sSe sc se e) ([])))) S G (c_X3_save l D cI cS x sv tl er sc z a r e n0 m0 p0 w0 s0 f0 sa sr se hsc) gX3_setPosition_X3_save rfl (by decide +kernel) ⟨⟨rfl, rfl⟩, Nat.le_of_ble_eq_true rfl, Nat.le_of_ble_eq_true rfl⟩ 0 rfl rfl rfl hl.1 rfl (Nat.le_of_ble_eq_true rfl) ⟨Nat.zero_le _, Nat.zero_le _⟩ dX3_setPosition_35 rfl rfl (fun H locs G => ?_)
          refine lv_aload_n hx hb dX3_setPosition_38 rfl (lv_at hl 0 rfl) ?_
          refine k_get (v := .ref (a 0)) S G 0 rfl rfl hiX3 0 (by decide) hf10 rfl dX3_setPosition_39 ?_
          refine lv_iload_n hx hb dX3_setPosition_42 rfl (lv_at hl 1 rfl) ?_
          refine k_callV (n := 1) (As := [.int 1]) (rest := []) (st1 := [.ref (a 2)]) (ws1 := ((x, .inr (3, [.ref (a 0), .ref sv, .ref tl, .ref er, .int (sSc sc)])) :: (er, .inl (cI, 3, .inl z)) :: stW cI a r e ((tl, .inr (2, [.int n0, .int m0, .int p0, .int w0, .int s0, .int f0])) :: (sv, .inl (cS, 5, .inr (.inr (.inr (.inr (fun i => some ((sSa sc sa) i 0))))))) :: svW cI (sSa sc sa) (sSr sc sr r) (sSe sc se e) ([])))) S G (c_X0_trainOf_1 l D cI cS a r e) gX3_setPosition_X0_trainOf rfl (by decide +kernel) ⟨⟨rfl, rfl⟩, Nat.le_of_ble_eq_true rfl, Nat.le_of_ble_eq_true rfl⟩ [2, 3, 4, 5, 6, 7, 8] (by decide) rfl [(a 0), (a 1), (a 2), (a 3), (a 4), (a 5), (a 6)] rfl rfl 2 rfl rfl rfl hl.1 rfl (Nat.le_of_ble_eq_true rfl) ⟨Nat.zero_le _, Nat.zero_le _⟩ dX3_setPosition_43 rfl rfl (fun H locs G => ?_)
          refine lv_astore_n (lv' := [(3, .ref (a 2)), (0, .ref x), (1, .int 1), (2, .int q)]) hx hb dX3_setPosition_46 rfl hl (by decide) rfl (fun ls hl => ?_)
          refine lv_aload_n hx hb dX3_setPosition_47 rfl (lv_at hl 0 rfl) ?_
          refine k_get (v := .int (r 10)) S G 4 rfl rfl hiX2 2 (by decide) hf59 rfl dX3_setPosition_48 ?_
          refine lv_istore (lv' := [(4, .int (r 10)), (3, .ref (a 2)), (0, .ref x), (1, .int 1), (2, .int q)]) hx hb dX3_setPosition_51 hl (by decide) rfl (fun ls hl => ?_)
          refine lv_aload_n hx hb dX3_setPosition_53 rfl (lv_at hl 1 rfl) ?_
          refine lv_iload_n hx hb dX3_setPosition_54 rfl (lv_at hl 4 rfl) ?_
          refine k_put (ws1 := ((x, .inr (3, [.ref (a 0), .ref sv, .ref tl, .ref er, .int (sSc sc)])) :: (er, .inl (cI, 3, .inl z)) :: stW cI a (upd r 10 q) e ((tl, .inr (2, [.int n0, .int m0, .int p0, .int w0, .int s0, .int f0])) :: (sv, .inl (cS, 5, .inr (.inr (.inr (.inr (fun i => some ((sSa sc sa) i 0))))))) :: svW cI (sSa sc sa) (sSr sc sr r) (sSe sc se e) ([])))) S G 4 rfl rfl hiX2 tyX2 tyX2_ok nmX2 2 (by decide) hf59 rfl rfl rfl (Nat.le_of_ble_eq_true rfl) dX3_setPosition_55 rfl (fun H locs G => ?_)
          refine lv_iload hx hb dX3_setPosition_58 (lv_at hl 0 rfl) ?_
          have es : (s_X3_setPosition sc z r e sa sr se tn q) = ((r 10), (sSc sc), z, (upd r 10 q), (sSa sc sa), (sSr sc sr r), (sSe sc se e)) := by rw [s_X3_setPosition, if_neg c_1, if_pos c_5, if_neg c_7, if_pos c_8]
          exact k_iret S G hr hlk dX3_setPosition_60 (by first | (rw [es]; done) | (rw [es]; rfl) | (simp only [es]; done) | (simp only [es]; rfl)) (by first | (rw [es]; done) | (rw [es]; rfl) | (simp only [es]; done) | (simp only [es]; rfl))
        · skip
          refine lv_aload_n hx hb dX3_setPosition_27 rfl (lv_at hl 0 rfl) ?_
          refine lv_bipush (v := (-2)) hx hb dX3_setPosition_28 (by decide) ?_
          refine k_callV (n := 1) (As := [.int (-2)]) (rest := []) (st1 := [.int (-2)]) (ws1 := ((x, .inr (3, [.ref (a 0), .ref sv, .ref tl, .ref er, .int sc])) :: (er, .inl (cI, 3, .inl (upd z 0 ((z 0) + 1)))) :: stW cI a r e ((tl, .inr (2, [.int n0, .int m0, .int p0, .int w0, .int s0, .int f0])) :: (sv, .inl (cS, 5, .inr (.inr (.inr (.inr (fun i => some (sa i 0))))))) :: svW cI sa sr se ([])))) S G (c_X3_refuse_2 l D cI cS (a 0) x sv tl er sc z) gX3_setPosition_X3_refuse rfl (by decide +kernel) ⟨⟨rfl, rfl⟩, Nat.le_of_ble_eq_true rfl, Nat.le_of_ble_eq_true rfl⟩ [0, 1] (by decide) rfl [x, er] rfl rfl 0 rfl rfl rfl hl.1 rfl (Nat.le_of_ble_eq_true rfl) ⟨Nat.zero_le _, Nat.zero_le _⟩ dX3_setPosition_30 rfl rfl (fun H locs G => ?_)
          have es : (s_X3_setPosition sc z r e sa sr se tn q) = ((-2), sc, (upd z 0 ((z 0) + 1)), r, sa, sr, se) := by rw [s_X3_setPosition, if_neg c_1, if_pos c_5, if_neg c_7, if_neg c_8]
          exact k_iret S G hr hlk dX3_setPosition_33 (by first | (rw [es]; done) | (rw [es]; rfl) | (simp only [es]; done) | (simp only [es]; rfl)) (by first | (rw [es]; done) | (rw [es]; rfl) | (simp only [es]; done) | (simp only [es]; rfl))
    · skip
      refine lv_iload_n hx hb dX3_setPosition_0 rfl (lv_at hl 1 rfl) ?_
      refine k_callS (n := 1) (As := [.int tn]) (rest := []) (st1 := [.int 0]) (ws1 := ((x, .inr (3, [.ref (a 0), .ref sv, .ref tl, .ref er, .int sc])) :: (er, .inl (cI, 3, .inl z)) :: stW cI a r e ((tl, .inr (2, [.int n0, .int m0, .int p0, .int w0, .int s0, .int f0])) :: (sv, .inl (cS, 5, .inr (.inr (.inr (.inr (fun i => some (sa i 0))))))) :: svW cI sa sr se ([])))) S G (c_X3_isTrain l D cI cS tn) gX3_setPosition_X3_isTrain rfl (by decide +kernel) ⟨⟨rfl, rfl⟩, Nat.le_of_ble_eq_true rfl, Nat.le_of_ble_eq_true rfl⟩ [] (by decide) rfl [] rfl rfl rfl hl.1 rfl (Nat.le_of_ble_eq_true rfl) ⟨Nat.zero_le _, Nat.zero_le _⟩ dX3_setPosition_1 (congrArg (fun z => Value.int z :: []) (by rw [s_X3_isTrain, if_neg c_1, if_neg c_5])) rfl (fun H locs G => ?_)
      refine lv_if_eq (tgt := 27) hx hb dX3_setPosition_4 (by decide) (fun c_9 => ?_) (fun c_9 => absurd c_9 (by decide))
      refine lv_aload_n hx hb dX3_setPosition_27 rfl (lv_at hl 0 rfl) ?_
      refine lv_bipush (v := (-2)) hx hb dX3_setPosition_28 (by decide) ?_
      refine k_callV (n := 1) (As := [.int (-2)]) (rest := []) (st1 := [.int (-2)]) (ws1 := ((x, .inr (3, [.ref (a 0), .ref sv, .ref tl, .ref er, .int sc])) :: (er, .inl (cI, 3, .inl (upd z 0 ((z 0) + 1)))) :: stW cI a r e ((tl, .inr (2, [.int n0, .int m0, .int p0, .int w0, .int s0, .int f0])) :: (sv, .inl (cS, 5, .inr (.inr (.inr (.inr (fun i => some (sa i 0))))))) :: svW cI sa sr se ([])))) S G (c_X3_refuse_2 l D cI cS (a 0) x sv tl er sc z) gX3_setPosition_X3_refuse rfl (by decide +kernel) ⟨⟨rfl, rfl⟩, Nat.le_of_ble_eq_true rfl, Nat.le_of_ble_eq_true rfl⟩ [0, 1] (by decide) rfl [x, er] rfl rfl 0 rfl rfl rfl hl.1 rfl (Nat.le_of_ble_eq_true rfl) ⟨Nat.zero_le _, Nat.zero_le _⟩ dX3_setPosition_30 rfl rfl (fun H locs G => ?_)
      have es : (s_X3_setPosition sc z r e sa sr se tn q) = ((-2), sc, (upd z 0 ((z 0) + 1)), r, sa, sr, se) := by rw [s_X3_setPosition, if_neg c_1, if_neg c_5]
      exact k_iret S G hr hlk dX3_setPosition_33 (by first | (rw [es]; done) | (rw [es]; rfl) | (simp only [es]; done) | (simp only [es]; rfl)) (by first | (rw [es]; done) | (rw [es]; rfl) | (simp only [es]; done) | (simp only [es]; rfl))
def s_X3_setSilence (sc : Int32) (z : Nat → Int32) (r : Nat → Int32) (e : Nat → Nat → Int32) (sa : Nat → Nat → Nat) (sr : Nat → Nat → Int32) (se : Nat → Nat → Nat → Int32) (q : Int32) (bg : Int32) (en : Int32) : Int32 × Int32 × (Nat → Int32) × (Nat → Int32) × (Nat → Nat → Nat) × (Nat → Nat → Int32) × (Nat → Nat → Nat → Int32) := (if q < 0 then ((-2), sc, (upd z 0 ((z 0) + 1)), r, sa, sr, se) else (if 2 < q then ((-2), sc, (upd z 0 ((z 0) + 1)), r, sa, sr, se) else (if (s_X3_isMinute bg) = 0 then ((-2), sc, (upd z 0 ((z 0) + 1)), r, sa, sr, se) else (if (s_X3_isMinute en) = 0 then ((-2), sc, (upd z 0 ((z 0) + 1)), r, sa, sr, se) else ((r 1), (sSc sc), z, (upd (upd (upd r 1 q) 2 bg) 3 en), (sSa sc sa), (sSr sc sr r), (sSe sc se e))))))
set_option maxHeartbeats 4000000 in
set_option maxRecDepth 100000 in
theorem c_X3_setSilence (l : Launch) (D : va_G) (cI cS : ClassId) (x : Nat) (sv : Nat) (tl : Nat) (er : Nat) (sc : Int32) (z : Nat → Int32) (a : Nat → Nat) (r : Nat → Int32) (e : Nat → Nat → Int32) (n0 : Int32) (m0 : Int32) (p0 : Int32) (w0 : Int32) (s0 : Int32) (f0 : Int32) (sa : Nat → Nat → Nat) (sr : Nat → Nat → Int32) (se : Nat → Nat → Nat → Int32) (q : Int32) (bg : Int32) (en : Int32) (hsc : scOk sc) : Ct l yX3_setSilence wsX3_setSilence ({ frames := 3, cells := 0, slots := 0, locals := 63 }) D (tyL cI cS) [.ref x, .int q, .int bg, .int en] ((x, .inr (3, [.ref (a 0), .ref sv, .ref tl, .ref er, .int sc])) :: (er, .inl (cI, 3, .inl z)) :: stW cI a r e ((tl, .inr (2, [.int n0, .int m0, .int p0, .int w0, .int s0, .int f0])) :: (sv, .inl (cS, 5, .inr (.inr (.inr (.inr (fun i => some (sa i 0))))))) :: svW cI sa sr se ([]))) (some (.int ((s_X3_setSilence sc z r e sa sr se q bg en).1))) ((x, .inr (3, [.ref (a 0), .ref sv, .ref tl, .ref er, .int ((s_X3_setSilence sc z r e sa sr se q bg en).2.1)])) :: (er, .inl (cI, 3, .inl ((s_X3_setSilence sc z r e sa sr se q bg en).2.2.1))) :: stW cI a ((s_X3_setSilence sc z r e sa sr se q bg en).2.2.2.1) e ((tl, .inr (2, [.int n0, .int m0, .int p0, .int w0, .int s0, .int f0])) :: (sv, .inl (cS, 5, .inr (.inr (.inr (.inr (fun i => some (((s_X3_setSilence sc z r e sa sr se q bg en).2.2.2.2.1) i 0))))))) :: svW cI ((s_X3_setSilence sc z r e sa sr se q bg en).2.2.2.2.1) ((s_X3_setSilence sc z r e sa sr se q bg en).2.2.2.2.2.1) ((s_X3_setSilence sc z r e sa sr se q bg en).2.2.2.2.2.2) ([]))) := by
  refine Ct.of (cc := cX3_setSilence) (maxL := 6) (ret := (some .int)) (by decide) rfl (Nat.le_of_ble_eq_true rfl) ?_
  intro p ev s m args below meth c A ls S hr hlk G hl
  have hx := S.1
  have hb := S.2.1
  have hown : s.vm.findClass RX3 = some m.cls := S.2.2.2.1
  have hts := S.2.2.2.2
  have hl : lv_has ls 6 [(0, .ref x), (1, .int q), (2, .int bg), (3, .int en)] := hl
  have hiX0 : ∀ w ∈ wsX00, w ∈ wsX3_setSilence := by decide +kernel
  have hiX3 : ∀ w ∈ wsX30, w ∈ wsX3_setSilence := by decide +kernel
  have hf10 := hts (.fieldLink RX3 10 "StrikingWork" "now" "LStrikingWork$State;") (by decide +kernel)
  have hf65 := hts (.fieldLink RX3 65 "StrikingWork$State" "silenceMode" "I") (by decide +kernel)
  have hf68 := hts (.fieldLink RX3 68 "StrikingWork$State" "silenceBegin" "I") (by decide +kernel)
  have hf71 := hts (.fieldLink RX3 71 "StrikingWork$State" "silenceEnd" "I") (by decide +kernel)
  refine lv_iload_n hx hb dX3_setSilence_0 rfl (lv_at hl 1 rfl) ?_
  refine lv_if_lt (tgt := 13) hx hb dX3_setSilence_1 (by decide) (fun c_1 => ?_) (fun c_1 => ?_)
  · skip
    refine lv_iconst (v := 0) hx hb dX3_setSilence_13 (by decide) ?_
    refine lv_istore (lv' := [(4, .int 0), (0, .ref x), (1, .int q), (2, .int bg), (3, .int en)]) hx hb dX3_setSilence_14 hl (by decide) rfl (fun ls hl => ?_)
    refine lv_iload hx hb dX3_setSilence_16 (lv_at hl 0 rfl) ?_
    refine lv_if_eq (tgt := 35) hx hb dX3_setSilence_18 (by decide) (fun c_2 => ?_) (fun c_2 => absurd c_2 (by decide))
    refine lv_aload_n hx hb dX3_setSilence_35 rfl (lv_at hl 1 rfl) ?_
    refine lv_bipush (v := (-2)) hx hb dX3_setSilence_36 (by decide) ?_
    refine k_callV (n := 1) (As := [.int (-2)]) (rest := []) (st1 := [.int (-2)]) (ws1 := ((x, .inr (3, [.ref (a 0), .ref sv, .ref tl, .ref er, .int sc])) :: (er, .inl (cI, 3, .inl (upd z 0 ((z 0) + 1)))) :: stW cI a r e ((tl, .inr (2, [.int n0, .int m0, .int p0, .int w0, .int s0, .int f0])) :: (sv, .inl (cS, 5, .inr (.inr (.inr (.inr (fun i => some (sa i 0))))))) :: svW cI sa sr se ([])))) S G (c_X3_refuse_2 l D cI cS (a 0) x sv tl er sc z) gX3_setSilence_X3_refuse rfl (by decide +kernel) ⟨⟨rfl, rfl⟩, Nat.le_of_ble_eq_true rfl, Nat.le_of_ble_eq_true rfl⟩ [0, 1] (by decide) rfl [x, er] rfl rfl 0 rfl rfl rfl hl.1 rfl (Nat.le_of_ble_eq_true rfl) ⟨Nat.zero_le _, Nat.zero_le _⟩ dX3_setSilence_38 rfl rfl (fun H locs G => ?_)
    have es : (s_X3_setSilence sc z r e sa sr se q bg en) = ((-2), sc, (upd z 0 ((z 0) + 1)), r, sa, sr, se) := by rw [s_X3_setSilence, if_pos c_1]
    exact k_iret S G hr hlk dX3_setSilence_41 (by first | (rw [es]; done) | (rw [es]; rfl) | (simp only [es]; done) | (simp only [es]; rfl)) (by first | (rw [es]; done) | (rw [es]; rfl) | (simp only [es]; done) | (simp only [es]; rfl))
  · skip
    refine lv_iload_n hx hb dX3_setSilence_4 rfl (lv_at hl 1 rfl) ?_
    refine lv_iconst (v := 2) hx hb dX3_setSilence_5 (by decide) ?_
    refine lv_icmp_gt (tgt := 13) hx hb dX3_setSilence_6 (by decide) (fun c_3 => ?_) (fun c_3 => ?_)
    · skip
      refine lv_iconst (v := 0) hx hb dX3_setSilence_13 (by decide) ?_
      refine lv_istore (lv' := [(4, .int 0), (0, .ref x), (1, .int q), (2, .int bg), (3, .int en)]) hx hb dX3_setSilence_14 hl (by decide) rfl (fun ls hl => ?_)
      refine lv_iload hx hb dX3_setSilence_16 (lv_at hl 0 rfl) ?_
      refine lv_if_eq (tgt := 35) hx hb dX3_setSilence_18 (by decide) (fun c_4 => ?_) (fun c_4 => absurd c_4 (by decide))
      refine lv_aload_n hx hb dX3_setSilence_35 rfl (lv_at hl 1 rfl) ?_
      refine lv_bipush (v := (-2)) hx hb dX3_setSilence_36 (by decide) ?_
      refine k_callV (n := 1) (As := [.int (-2)]) (rest := []) (st1 := [.int (-2)]) (ws1 := ((x, .inr (3, [.ref (a 0), .ref sv, .ref tl, .ref er, .int sc])) :: (er, .inl (cI, 3, .inl (upd z 0 ((z 0) + 1)))) :: stW cI a r e ((tl, .inr (2, [.int n0, .int m0, .int p0, .int w0, .int s0, .int f0])) :: (sv, .inl (cS, 5, .inr (.inr (.inr (.inr (fun i => some (sa i 0))))))) :: svW cI sa sr se ([])))) S G (c_X3_refuse_2 l D cI cS (a 0) x sv tl er sc z) gX3_setSilence_X3_refuse rfl (by decide +kernel) ⟨⟨rfl, rfl⟩, Nat.le_of_ble_eq_true rfl, Nat.le_of_ble_eq_true rfl⟩ [0, 1] (by decide) rfl [x, er] rfl rfl 0 rfl rfl rfl hl.1 rfl (Nat.le_of_ble_eq_true rfl) ⟨Nat.zero_le _, Nat.zero_le _⟩ dX3_setSilence_38 rfl rfl (fun H locs G => ?_)
      have es : (s_X3_setSilence sc z r e sa sr se q bg en) = ((-2), sc, (upd z 0 ((z 0) + 1)), r, sa, sr, se) := by rw [s_X3_setSilence, if_neg c_1, if_pos c_3]
      exact k_iret S G hr hlk dX3_setSilence_41 (by first | (rw [es]; done) | (rw [es]; rfl) | (simp only [es]; done) | (simp only [es]; rfl)) (by first | (rw [es]; done) | (rw [es]; rfl) | (simp only [es]; done) | (simp only [es]; rfl))
    · skip
      refine lv_iconst (v := 1) hx hb dX3_setSilence_9 (by decide) ?_
      refine lv_goto (tgt := 14) hx hb dX3_setSilence_10 (by decide) ?_
      refine lv_istore (lv' := [(4, .int 1), (0, .ref x), (1, .int q), (2, .int bg), (3, .int en)]) hx hb dX3_setSilence_14 hl (by decide) rfl (fun ls hl => ?_)
      refine lv_iload hx hb dX3_setSilence_16 (lv_at hl 0 rfl) ?_
      refine lv_if_eq (tgt := 35) hx hb dX3_setSilence_18 (by decide) (fun c_5 => absurd c_5 (by decide)) (fun c_5 => ?_)
      refine lv_iload_n hx hb dX3_setSilence_21 rfl (lv_at hl 3 rfl) ?_
      refine k_callS (n := 1) (As := [.int bg]) (rest := []) (st1 := [.int (s_X3_isMinute bg)]) (ws1 := ((x, .inr (3, [.ref (a 0), .ref sv, .ref tl, .ref er, .int sc])) :: (er, .inl (cI, 3, .inl z)) :: stW cI a r e ((tl, .inr (2, [.int n0, .int m0, .int p0, .int w0, .int s0, .int f0])) :: (sv, .inl (cS, 5, .inr (.inr (.inr (.inr (fun i => some (sa i 0))))))) :: svW cI sa sr se ([])))) S G (c_X3_isMinute l D cI cS bg) gX3_setSilence_X3_isMinute rfl (by decide +kernel) ⟨⟨rfl, rfl⟩, Nat.le_of_ble_eq_true rfl, Nat.le_of_ble_eq_true rfl⟩ [] (by decide) rfl [] rfl rfl rfl hl.1 rfl (Nat.le_of_ble_eq_true rfl) ⟨Nat.zero_le _, Nat.zero_le _⟩ dX3_setSilence_22 rfl rfl (fun H locs G => ?_)
      refine lv_if_eq (tgt := 35) hx hb dX3_setSilence_25 (by decide) (fun c_6 => ?_) (fun c_6 => ?_)
      · skip
        refine lv_aload_n hx hb dX3_setSilence_35 rfl (lv_at hl 1 rfl) ?_
        refine lv_bipush (v := (-2)) hx hb dX3_setSilence_36 (by decide) ?_
        refine k_callV (n := 1) (As := [.int (-2)]) (rest := []) (st1 := [.int (-2)]) (ws1 := ((x, .inr (3, [.ref (a 0), .ref sv, .ref tl, .ref er, .int sc])) :: (er, .inl (cI, 3, .inl (upd z 0 ((z 0) + 1)))) :: stW cI a r e ((tl, .inr (2, [.int n0, .int m0, .int p0, .int w0, .int s0, .int f0])) :: (sv, .inl (cS, 5, .inr (.inr (.inr (.inr (fun i => some (sa i 0))))))) :: svW cI sa sr se ([])))) S G (c_X3_refuse_2 l D cI cS (a 0) x sv tl er sc z) gX3_setSilence_X3_refuse rfl (by decide +kernel) ⟨⟨rfl, rfl⟩, Nat.le_of_ble_eq_true rfl, Nat.le_of_ble_eq_true rfl⟩ [0, 1] (by decide) rfl [x, er] rfl rfl 0 rfl rfl rfl hl.1 rfl (Nat.le_of_ble_eq_true rfl) ⟨Nat.zero_le _, Nat.zero_le _⟩ dX3_setSilence_38 rfl rfl (fun H locs G => ?_)
        have es : (s_X3_setSilence sc z r e sa sr se q bg en) = ((-2), sc, (upd z 0 ((z 0) + 1)), r, sa, sr, se) := by rw [s_X3_setSilence, if_neg c_1, if_neg c_3, if_pos c_6]
        exact k_iret S G hr hlk dX3_setSilence_41 (by first | (rw [es]; done) | (rw [es]; rfl) | (simp only [es]; done) | (simp only [es]; rfl)) (by first | (rw [es]; done) | (rw [es]; rfl) | (simp only [es]; done) | (simp only [es]; rfl))
      · skip
        refine lv_iload_n hx hb dX3_setSilence_28 rfl (lv_at hl 4 rfl) ?_
        refine k_callS (n := 1) (As := [.int en]) (rest := []) (st1 := [.int (s_X3_isMinute en)]) (ws1 := ((x, .inr (3, [.ref (a 0), .ref sv, .ref tl, .ref er, .int sc])) :: (er, .inl (cI, 3, .inl z)) :: stW cI a r e ((tl, .inr (2, [.int n0, .int m0, .int p0, .int w0, .int s0, .int f0])) :: (sv, .inl (cS, 5, .inr (.inr (.inr (.inr (fun i => some (sa i 0))))))) :: svW cI sa sr se ([])))) S G (c_X3_isMinute l D cI cS en) gX3_setSilence_X3_isMinute rfl (by decide +kernel) ⟨⟨rfl, rfl⟩, Nat.le_of_ble_eq_true rfl, Nat.le_of_ble_eq_true rfl⟩ [] (by decide) rfl [] rfl rfl rfl hl.1 rfl (Nat.le_of_ble_eq_true rfl) ⟨Nat.zero_le _, Nat.zero_le _⟩ dX3_setSilence_29 rfl rfl (fun H locs G => ?_)
        refine lv_if_ne (tgt := 42) hx hb dX3_setSilence_32 (by decide) (fun c_7 => ?_) (fun c_7 => ?_)
        · skip
          refine lv_aload_n hx hb dX3_setSilence_42 rfl (lv_at hl 1 rfl) ?_
          refine k_callA (n := 0) (As := []) (rest := []) (st1 := []) (ws1 := ((x, .inr (3, [.ref (a 0), .ref sv, .ref tl, .ref er, .int (sSc sc)])) :: (er, .inl (cI, 3, .inl z)) :: stW cI a r e ((tl, .inr (2, [.int n0, .int m0, .int p0, .int w0, .int s0, .int f0])) :: (sv, .inl (cS, 5, .inr (.inr (.inr (.inr (fun i => some ((sSa sc sa) i 0))))))) :: svW cI (sSa sc sa) (sSr sc sr r) (sSe sc se e) ([])))) S G (c_X3_save l D cI cS x sv tl er sc z a r e n0 m0 p0 w0 s0 f0 sa sr se hsc) gX3_setSilence_X3_save rfl (by decide +kernel) ⟨⟨rfl, rfl⟩, Nat.le_of_ble_eq_true rfl, Nat.le_of_ble_eq_true rfl⟩ 0 rfl rfl rfl hl.1 rfl (Nat.le_of_ble_eq_true rfl) ⟨Nat.zero_le _, Nat.zero_le _⟩ dX3_setSilence_43 rfl rfl (fun H locs G => ?_)
          refine lv_aload_n hx hb dX3_setSilence_46 rfl (lv_at hl 1 rfl) ?_
          refine k_get (v := .ref (a 0)) S G 0 rfl rfl hiX3 0 (by decide) hf10 rfl dX3_setSilence_47 ?_
          refine k_get (v := .int (r 1)) S G 2 rfl rfl hiX0 4 (by decide) hf65 rfl dX3_setSilence_50 ?_
          refine lv_istore (lv' := [(5, .int (r 1)), (4, .int 1), (0, .ref x), (1, .int q), (2, .int bg), (3, .int en)]) hx hb dX3_setSilence_53 hl (by decide) rfl (fun ls hl => ?_)
          refine lv_aload_n hx hb dX3_setSilence_55 rfl (lv_at hl 2 rfl) ?_
          refine k_get (v := .ref (a 0)) S G 0 rfl rfl hiX3 0 (by decide) hf10 rfl dX3_setSilence_56 ?_
          refine lv_iload_n hx hb dX3_setSilence_59 rfl (lv_at hl 3 rfl) ?_
          refine k_put (ws1 := ((x, .inr (3, [.ref (a 0), .ref sv, .ref tl, .ref er, .int (sSc sc)])) :: (er, .inl (cI, 3, .inl z)) :: stW cI a (upd r 1 q) e ((tl, .inr (2, [.int n0, .int m0, .int p0, .int w0, .int s0, .int f0])) :: (sv, .inl (cS, 5, .inr (.inr (.inr (.inr (fun i => some ((sSa sc sa) i 0))))))) :: svW cI (sSa sc sa) (sSr sc sr r) (sSe sc se e) ([])))) S G 2 rfl rfl hiX0 tyX0 tyX0_ok nmX0 4 (by decide) hf65 rfl rfl rfl (Nat.le_of_ble_eq_true rfl) dX3_setSilence_60 rfl (fun H locs G => ?_)
          refine lv_aload_n hx hb dX3_setSilence_63 rfl (lv_at hl 2 rfl) ?_
          refine k_get (v := .ref (a 0)) S G 0 rfl rfl hiX3 0 (by decide) hf10 rfl dX3_setSilence_64 ?_
          refine lv_iload_n hx hb dX3_setSilence_67 rfl (lv_at hl 4 rfl) ?_
          refine k_put (ws1 := ((x, .inr (3, [.ref (a 0), .ref sv, .ref tl, .ref er, .int (sSc sc)])) :: (er, .inl (cI, 3, .inl z)) :: stW cI a (upd (upd r 1 q) 2 bg) e ((tl, .inr (2, [.int n0, .int m0, .int p0, .int w0, .int s0, .int f0])) :: (sv, .inl (cS, 5, .inr (.inr (.inr (.inr (fun i => some ((sSa sc sa) i 0))))))) :: svW cI (sSa sc sa) (sSr sc sr r) (sSe sc se e) ([])))) S G 2 rfl rfl hiX0 tyX0 tyX0_ok nmX0 5 (by decide) hf68 rfl rfl rfl (Nat.le_of_ble_eq_true rfl) dX3_setSilence_68 rfl (fun H locs G => ?_)
          refine lv_aload_n hx hb dX3_setSilence_71 rfl (lv_at hl 2 rfl) ?_
          refine k_get (v := .ref (a 0)) S G 0 rfl rfl hiX3 0 (by decide) hf10 rfl dX3_setSilence_72 ?_
          refine lv_iload_n hx hb dX3_setSilence_75 rfl (lv_at hl 5 rfl) ?_
          refine k_put (ws1 := ((x, .inr (3, [.ref (a 0), .ref sv, .ref tl, .ref er, .int (sSc sc)])) :: (er, .inl (cI, 3, .inl z)) :: stW cI a (upd (upd (upd r 1 q) 2 bg) 3 en) e ((tl, .inr (2, [.int n0, .int m0, .int p0, .int w0, .int s0, .int f0])) :: (sv, .inl (cS, 5, .inr (.inr (.inr (.inr (fun i => some ((sSa sc sa) i 0))))))) :: svW cI (sSa sc sa) (sSr sc sr r) (sSe sc se e) ([])))) S G 2 rfl rfl hiX0 tyX0 tyX0_ok nmX0 6 (by decide) hf71 rfl rfl rfl (Nat.le_of_ble_eq_true rfl) dX3_setSilence_76 rfl (fun H locs G => ?_)
          refine lv_iload hx hb dX3_setSilence_79 (lv_at hl 0 rfl) ?_
          have es : (s_X3_setSilence sc z r e sa sr se q bg en) = ((r 1), (sSc sc), z, (upd (upd (upd r 1 q) 2 bg) 3 en), (sSa sc sa), (sSr sc sr r), (sSe sc se e)) := by rw [s_X3_setSilence, if_neg c_1, if_neg c_3, if_neg c_6, if_neg c_7]
          exact k_iret S G hr hlk dX3_setSilence_81 (by first | (rw [es]; done) | (rw [es]; rfl) | (simp only [es]; done) | (simp only [es]; rfl)) (by first | (rw [es]; done) | (rw [es]; rfl) | (simp only [es]; done) | (simp only [es]; rfl))
        · skip
          refine lv_aload_n hx hb dX3_setSilence_35 rfl (lv_at hl 1 rfl) ?_
          refine lv_bipush (v := (-2)) hx hb dX3_setSilence_36 (by decide) ?_
          refine k_callV (n := 1) (As := [.int (-2)]) (rest := []) (st1 := [.int (-2)]) (ws1 := ((x, .inr (3, [.ref (a 0), .ref sv, .ref tl, .ref er, .int sc])) :: (er, .inl (cI, 3, .inl (upd z 0 ((z 0) + 1)))) :: stW cI a r e ((tl, .inr (2, [.int n0, .int m0, .int p0, .int w0, .int s0, .int f0])) :: (sv, .inl (cS, 5, .inr (.inr (.inr (.inr (fun i => some (sa i 0))))))) :: svW cI sa sr se ([])))) S G (c_X3_refuse_2 l D cI cS (a 0) x sv tl er sc z) gX3_setSilence_X3_refuse rfl (by decide +kernel) ⟨⟨rfl, rfl⟩, Nat.le_of_ble_eq_true rfl, Nat.le_of_ble_eq_true rfl⟩ [0, 1] (by decide) rfl [x, er] rfl rfl 0 rfl rfl rfl hl.1 rfl (Nat.le_of_ble_eq_true rfl) ⟨Nat.zero_le _, Nat.zero_le _⟩ dX3_setSilence_38 rfl rfl (fun H locs G => ?_)
          have es : (s_X3_setSilence sc z r e sa sr se q bg en) = ((-2), sc, (upd z 0 ((z 0) + 1)), r, sa, sr, se) := by rw [s_X3_setSilence, if_neg c_1, if_neg c_3, if_neg c_6, if_pos c_7]
          exact k_iret S G hr hlk dX3_setSilence_41 (by first | (rw [es]; done) | (rw [es]; rfl) | (simp only [es]; done) | (simp only [es]; rfl)) (by first | (rw [es]; done) | (rw [es]; rfl) | (simp only [es]; done) | (simp only [es]; rfl))
def s_X3_wind (sc : Int32) (z : Nat → Int32) (r : Nat → Int32) (e : Nat → Nat → Int32) (sa : Nat → Nat → Nat) (sr : Nat → Nat → Int32) (se : Nat → Nat → Nat → Int32) (tn : Int32) (q : Int32) : Int32 × Int32 × (Nat → Int32) × (Nat → Int32) × (Nat → Nat → Nat) × (Nat → Nat → Int32) × (Nat → Nat → Nat → Int32) := (if tn = 0 then (if q < 1 then ((-2), sc, (upd z 0 ((z 0) + 1)), r, sa, sr, se) else (if q ≤ 2000 then ((if (2000 - (r 6)) < q then (2000 - (r 6)) else q), (sSc sc), z, (upd r 6 ((r 6) + (if (2000 - (r 6)) < q then (2000 - (r 6)) else q))), (sSa sc sa), (sSr sc sr r), (sSe sc se e)) else ((-2), sc, (upd z 0 ((z 0) + 1)), r, sa, sr, se))) else (if tn = 1 then (if q < 1 then ((-2), sc, (upd z 0 ((z 0) + 1)), r, sa, sr, se) else (if q ≤ 2000 then ((if (2000 - (r 11)) < q then (2000 - (r 11)) else q), (sSc sc), z, (upd r 11 ((r 11) + (if (2000 - (r 11)) < q then (2000 - (r 11)) else q))), (sSa sc sa), (sSr sc sr r), (sSe sc se e)) else ((-2), sc, (upd z 0 ((z 0) + 1)), r, sa, sr, se))) else ((-2), sc, (upd z 0 ((z 0) + 1)), r, sa, sr, se)))
set_option maxHeartbeats 4000000 in
set_option maxRecDepth 100000 in
theorem c_X3_wind (l : Launch) (D : va_G) (cI cS : ClassId) (x : Nat) (sv : Nat) (tl : Nat) (er : Nat) (sc : Int32) (z : Nat → Int32) (a : Nat → Nat) (r : Nat → Int32) (e : Nat → Nat → Int32) (n0 : Int32) (m0 : Int32) (p0 : Int32) (w0 : Int32) (s0 : Int32) (f0 : Int32) (sa : Nat → Nat → Nat) (sr : Nat → Nat → Int32) (se : Nat → Nat → Nat → Int32) (tn : Int32) (q : Int32) (hsc : scOk sc) : Ct l yX3_wind wsX3_wind ({ frames := 3, cells := 0, slots := 0, locals := 63 }) D (tyL cI cS) [.ref x, .int tn, .int q] ((x, .inr (3, [.ref (a 0), .ref sv, .ref tl, .ref er, .int sc])) :: (er, .inl (cI, 3, .inl z)) :: stW cI a r e ((tl, .inr (2, [.int n0, .int m0, .int p0, .int w0, .int s0, .int f0])) :: (sv, .inl (cS, 5, .inr (.inr (.inr (.inr (fun i => some (sa i 0))))))) :: svW cI sa sr se ([]))) (some (.int ((s_X3_wind sc z r e sa sr se tn q).1))) ((x, .inr (3, [.ref (a 0), .ref sv, .ref tl, .ref er, .int ((s_X3_wind sc z r e sa sr se tn q).2.1)])) :: (er, .inl (cI, 3, .inl ((s_X3_wind sc z r e sa sr se tn q).2.2.1))) :: stW cI a ((s_X3_wind sc z r e sa sr se tn q).2.2.2.1) e ((tl, .inr (2, [.int n0, .int m0, .int p0, .int w0, .int s0, .int f0])) :: (sv, .inl (cS, 5, .inr (.inr (.inr (.inr (fun i => some (((s_X3_wind sc z r e sa sr se tn q).2.2.2.2.1) i 0))))))) :: svW cI ((s_X3_wind sc z r e sa sr se tn q).2.2.2.2.1) ((s_X3_wind sc z r e sa sr se tn q).2.2.2.2.2.1) ((s_X3_wind sc z r e sa sr se tn q).2.2.2.2.2.2) ([]))) := by
  refine Ct.of (cc := cX3_wind) (maxL := 5) (ret := (some .int)) (by decide) rfl (Nat.le_of_ble_eq_true rfl) ?_
  intro p ev s m args below meth c A ls S hr hlk G hl
  have hx := S.1
  have hb := S.2.1
  have hown : s.vm.findClass RX3 = some m.cls := S.2.2.2.1
  have hts := S.2.2.2.2
  have hl : lv_has ls 5 [(0, .ref x), (1, .int tn), (2, .int q)] := hl
  have hiX2 : ∀ w ∈ wsX20, w ∈ wsX3_wind := by decide +kernel
  have hiX3 : ∀ w ∈ wsX30, w ∈ wsX3_wind := by decide +kernel
  have hf10 := hts (.fieldLink RX3 10 "StrikingWork" "now" "LStrikingWork$State;") (by decide +kernel)
  have hf74 := hts (.fieldLink RX3 74 "StrikingWork$Train" "weight" "I") (by decide +kernel)
  have hmL := hts (.methodLink RX3 77 Lib.Math.min.name) (by decide +kernel)
  have hmS := hts (.static Lib.Math.min.name) (by decide +kernel)
  have hmI := hts (.initialized "java/lang/Math") (by decide +kernel)
  have hmC := hts (.code Lib.Math.min.name Lib.Math.min.code 2 (some .int)) (by decide +kernel)
  by_cases c_1 : tn = 0
  · skip
    have hl : lv_has ls 5 [(0, .ref x), (1, .int 0), (2, .int q)] := by rw [← c_1]; exact hl
    refine lv_iload_n hx hb dX3_wind_0 rfl (lv_at hl 1 rfl) ?_
    refine k_callS (n := 1) (As := [.int 0]) (rest := []) (st1 := [.int 1]) (ws1 := ((x, .inr (3, [.ref (a 0), .ref sv, .ref tl, .ref er, .int sc])) :: (er, .inl (cI, 3, .inl z)) :: stW cI a r e ((tl, .inr (2, [.int n0, .int m0, .int p0, .int w0, .int s0, .int f0])) :: (sv, .inl (cS, 5, .inr (.inr (.inr (.inr (fun i => some (sa i 0))))))) :: svW cI sa sr se ([])))) S G (c_X3_isTrain l D cI cS 0) gX3_wind_X3_isTrain rfl (by decide +kernel) ⟨⟨rfl, rfl⟩, Nat.le_of_ble_eq_true rfl, Nat.le_of_ble_eq_true rfl⟩ [] (by decide) rfl [] rfl rfl rfl hl.1 rfl (Nat.le_of_ble_eq_true rfl) ⟨Nat.zero_le _, Nat.zero_le _⟩ dX3_wind_1 (congrArg (fun z => Value.int z :: []) (by decide : (s_X3_isTrain 0) = 1)) rfl (fun H locs G => ?_)
    refine lv_if_eq (tgt := 19) hx hb dX3_wind_4 (by decide) (fun c_2 => absurd c_2 (by decide)) (fun c_2 => ?_)
    refine lv_iload_n hx hb dX3_wind_7 rfl (lv_at hl 2 rfl) ?_
    refine lv_iconst (v := 1) hx hb dX3_wind_8 (by decide) ?_
    refine lv_icmp_lt (tgt := 19) hx hb dX3_wind_9 (by decide) (fun c_3 => ?_) (fun c_3 => ?_)
    · skip
      refine lv_aload_n hx hb dX3_wind_19 rfl (lv_at hl 0 rfl) ?_
      refine lv_bipush (v := (-2)) hx hb dX3_wind_20 (by decide) ?_
      refine k_callV (n := 1) (As := [.int (-2)]) (rest := []) (st1 := [.int (-2)]) (ws1 := ((x, .inr (3, [.ref (a 0), .ref sv, .ref tl, .ref er, .int sc])) :: (er, .inl (cI, 3, .inl (upd z 0 ((z 0) + 1)))) :: stW cI a r e ((tl, .inr (2, [.int n0, .int m0, .int p0, .int w0, .int s0, .int f0])) :: (sv, .inl (cS, 5, .inr (.inr (.inr (.inr (fun i => some (sa i 0))))))) :: svW cI sa sr se ([])))) S G (c_X3_refuse_2 l D cI cS (a 0) x sv tl er sc z) gX3_wind_X3_refuse rfl (by decide +kernel) ⟨⟨rfl, rfl⟩, Nat.le_of_ble_eq_true rfl, Nat.le_of_ble_eq_true rfl⟩ [0, 1] (by decide) rfl [x, er] rfl rfl 0 rfl rfl rfl hl.1 rfl (Nat.le_of_ble_eq_true rfl) ⟨Nat.zero_le _, Nat.zero_le _⟩ dX3_wind_22 rfl rfl (fun H locs G => ?_)
      have es : (s_X3_wind sc z r e sa sr se tn q) = ((-2), sc, (upd z 0 ((z 0) + 1)), r, sa, sr, se) := by rw [s_X3_wind, if_pos c_1, if_pos c_3]
      exact k_iret S G hr hlk dX3_wind_25 (by first | (rw [es]; done) | (rw [es]; rfl) | (simp only [es]; done) | (simp only [es]; rfl)) (by first | (rw [es]; done) | (rw [es]; rfl) | (simp only [es]; done) | (simp only [es]; rfl))
    · skip
      refine lv_iload_n hx hb dX3_wind_12 rfl (lv_at hl 2 rfl) ?_
      refine lv_sipush (v := 2000) hx hb dX3_wind_13 (by decide) ?_
      refine lv_icmp_le (tgt := 26) hx hb dX3_wind_16 (by decide) (fun c_4 => ?_) (fun c_4 => ?_)
      · skip
        refine lv_aload_n hx hb dX3_wind_26 rfl (lv_at hl 0 rfl) ?_
        refine k_callA (n := 0) (As := []) (rest := []) (st1 := []) (ws1 := ((x, .inr (3, [.ref (a 0), .ref sv, .ref tl, .ref er, .int (sSc sc)])) :: (er, .inl (cI, 3, .inl z)) :: stW cI a r e ((tl, .inr (2, [.int n0, .int m0, .int p0, .int w0, .int s0, .int f0])) :: (sv, .inl (cS, 5, .inr (.inr (.inr (.inr (fun i => some ((sSa sc sa) i 0))))))) :: svW cI (sSa sc sa) (sSr sc sr r) (sSe sc se e) ([])))) S G (c_X3_save l D cI cS x sv tl er sc z a r e n0 m0 p0 w0 s0 f0 sa sr se hsc) gX3_wind_X3_save rfl (by decide +kernel) ⟨⟨rfl, rfl⟩, Nat.le_of_ble_eq_true rfl, Nat.le_of_ble_eq_true rfl⟩ 0 rfl rfl rfl hl.1 rfl (Nat.le_of_ble_eq_true rfl) ⟨Nat.zero_le _, Nat.zero_le _⟩ dX3_wind_27 rfl rfl (fun H locs G => ?_)
        refine lv_aload_n hx hb dX3_wind_30 rfl (lv_at hl 0 rfl) ?_
        refine k_get (v := .ref (a 0)) S G 0 rfl rfl hiX3 0 (by decide) hf10 rfl dX3_wind_31 ?_
        refine lv_iload_n hx hb dX3_wind_34 rfl (lv_at hl 1 rfl) ?_
        refine k_callV (n := 1) (As := [.int 0]) (rest := []) (st1 := [.ref (a 1)]) (ws1 := ((x, .inr (3, [.ref (a 0), .ref sv, .ref tl, .ref er, .int (sSc sc)])) :: (er, .inl (cI, 3, .inl z)) :: stW cI a r e ((tl, .inr (2, [.int n0, .int m0, .int p0, .int w0, .int s0, .int f0])) :: (sv, .inl (cS, 5, .inr (.inr (.inr (.inr (fun i => some ((sSa sc sa) i 0))))))) :: svW cI (sSa sc sa) (sSr sc sr r) (sSe sc se e) ([])))) S G (c_X0_trainOf_0 l D cI cS a r e) gX3_wind_X0_trainOf rfl (by decide +kernel) ⟨⟨rfl, rfl⟩, Nat.le_of_ble_eq_true rfl, Nat.le_of_ble_eq_true rfl⟩ [2, 3, 4, 5, 6, 7, 8] (by decide) rfl [(a 0), (a 1), (a 2), (a 3), (a 4), (a 5), (a 6)] rfl rfl 2 rfl rfl rfl hl.1 rfl (Nat.le_of_ble_eq_true rfl) ⟨Nat.zero_le _, Nat.zero_le _⟩ dX3_wind_35 rfl rfl (fun H locs G => ?_)
        refine lv_astore_n (lv' := [(3, .ref (a 1)), (0, .ref x), (1, .int 0), (2, .int q)]) hx hb dX3_wind_38 rfl hl (by decide) rfl (fun ls hl => ?_)
        refine lv_iload_n hx hb dX3_wind_39 rfl (lv_at hl 3 rfl) ?_
        refine lv_sipush (v := 2000) hx hb dX3_wind_40 (by decide) ?_
        refine lv_aload_n hx hb dX3_wind_43 rfl (lv_at hl 0 rfl) ?_
        refine k_get (v := .int (r 6)) S G 3 rfl rfl hiX2 3 (by decide) hf74 rfl dX3_wind_44 ?_
        refine lv_isub hx hb dX3_wind_47 ?_
        refine k_mmin S hl.1 hmL hmS hmI hmC (Nat.le_of_ble_eq_true rfl) (Nat.le_of_ble_eq_true rfl) ⟨Nat.zero_le _, Nat.zero_le _⟩ dX3_wind_48 ?_
        refine lv_istore (lv' := [(4, .int (if (2000 - (r 6)) < q then (2000 - (r 6)) else q)), (3, .ref (a 1)), (0, .ref x), (1, .int 0), (2, .int q)]) hx hb dX3_wind_51 hl (by decide) rfl (fun ls hl => ?_)
        refine lv_aload_n hx hb dX3_wind_53 rfl (lv_at hl 1 rfl) ?_
        refine lv_dup hx hb dX3_wind_54 rfl ?_
        refine k_get (v := .int (r 6)) S G 3 rfl rfl hiX2 3 (by decide) hf74 rfl dX3_wind_55 ?_
        refine lv_iload hx hb dX3_wind_58 (lv_at hl 0 rfl) ?_
        refine lv_iadd hx hb dX3_wind_60 ?_
        refine k_put (ws1 := ((x, .inr (3, [.ref (a 0), .ref sv, .ref tl, .ref er, .int (sSc sc)])) :: (er, .inl (cI, 3, .inl z)) :: stW cI a (upd r 6 ((r 6) + (if (2000 - (r 6)) < q then (2000 - (r 6)) else q))) e ((tl, .inr (2, [.int n0, .int m0, .int p0, .int w0, .int s0, .int f0])) :: (sv, .inl (cS, 5, .inr (.inr (.inr (.inr (fun i => some ((sSa sc sa) i 0))))))) :: svW cI (sSa sc sa) (sSr sc sr r) (sSe sc se e) ([])))) S G 3 rfl rfl hiX2 tyX2 tyX2_ok nmX2 3 (by decide) hf74 rfl rfl rfl (Nat.le_of_ble_eq_true rfl) dX3_wind_61 rfl (fun H locs G => ?_)
        refine lv_iload hx hb dX3_wind_64 (lv_at hl 0 rfl) ?_
        have es : (s_X3_wind sc z r e sa sr se tn q) = ((if (2000 - (r 6)) < q then (2000 - (r 6)) else q), (sSc sc), z, (upd r 6 ((r 6) + (if (2000 - (r 6)) < q then (2000 - (r 6)) else q))), (sSa sc sa), (sSr sc sr r), (sSe sc se e)) := by rw [s_X3_wind, if_pos c_1, if_neg c_3, if_pos c_4]
        exact k_iret S G hr hlk dX3_wind_66 (by first | (rw [es]; done) | (rw [es]; rfl) | (simp only [es]; done) | (simp only [es]; rfl)) (by first | (rw [es]; done) | (rw [es]; rfl) | (simp only [es]; done) | (simp only [es]; rfl))
      · skip
        refine lv_aload_n hx hb dX3_wind_19 rfl (lv_at hl 0 rfl) ?_
        refine lv_bipush (v := (-2)) hx hb dX3_wind_20 (by decide) ?_
        refine k_callV (n := 1) (As := [.int (-2)]) (rest := []) (st1 := [.int (-2)]) (ws1 := ((x, .inr (3, [.ref (a 0), .ref sv, .ref tl, .ref er, .int sc])) :: (er, .inl (cI, 3, .inl (upd z 0 ((z 0) + 1)))) :: stW cI a r e ((tl, .inr (2, [.int n0, .int m0, .int p0, .int w0, .int s0, .int f0])) :: (sv, .inl (cS, 5, .inr (.inr (.inr (.inr (fun i => some (sa i 0))))))) :: svW cI sa sr se ([])))) S G (c_X3_refuse_2 l D cI cS (a 0) x sv tl er sc z) gX3_wind_X3_refuse rfl (by decide +kernel) ⟨⟨rfl, rfl⟩, Nat.le_of_ble_eq_true rfl, Nat.le_of_ble_eq_true rfl⟩ [0, 1] (by decide) rfl [x, er] rfl rfl 0 rfl rfl rfl hl.1 rfl (Nat.le_of_ble_eq_true rfl) ⟨Nat.zero_le _, Nat.zero_le _⟩ dX3_wind_22 rfl rfl (fun H locs G => ?_)
        have es : (s_X3_wind sc z r e sa sr se tn q) = ((-2), sc, (upd z 0 ((z 0) + 1)), r, sa, sr, se) := by rw [s_X3_wind, if_pos c_1, if_neg c_3, if_neg c_4]
        exact k_iret S G hr hlk dX3_wind_25 (by first | (rw [es]; done) | (rw [es]; rfl) | (simp only [es]; done) | (simp only [es]; rfl)) (by first | (rw [es]; done) | (rw [es]; rfl) | (simp only [es]; done) | (simp only [es]; rfl))
  · skip
    by_cases c_5 : tn = 1
    · skip
      have hl : lv_has ls 5 [(0, .ref x), (1, .int 1), (2, .int q)] := by rw [← c_5]; exact hl
      refine lv_iload_n hx hb dX3_wind_0 rfl (lv_at hl 1 rfl) ?_
      refine k_callS (n := 1) (As := [.int 1]) (rest := []) (st1 := [.int 1]) (ws1 := ((x, .inr (3, [.ref (a 0), .ref sv, .ref tl, .ref er, .int sc])) :: (er, .inl (cI, 3, .inl z)) :: stW cI a r e ((tl, .inr (2, [.int n0, .int m0, .int p0, .int w0, .int s0, .int f0])) :: (sv, .inl (cS, 5, .inr (.inr (.inr (.inr (fun i => some (sa i 0))))))) :: svW cI sa sr se ([])))) S G (c_X3_isTrain l D cI cS 1) gX3_wind_X3_isTrain rfl (by decide +kernel) ⟨⟨rfl, rfl⟩, Nat.le_of_ble_eq_true rfl, Nat.le_of_ble_eq_true rfl⟩ [] (by decide) rfl [] rfl rfl rfl hl.1 rfl (Nat.le_of_ble_eq_true rfl) ⟨Nat.zero_le _, Nat.zero_le _⟩ dX3_wind_1 (congrArg (fun z => Value.int z :: []) (by decide : (s_X3_isTrain 1) = 1)) rfl (fun H locs G => ?_)
      refine lv_if_eq (tgt := 19) hx hb dX3_wind_4 (by decide) (fun c_6 => absurd c_6 (by decide)) (fun c_6 => ?_)
      refine lv_iload_n hx hb dX3_wind_7 rfl (lv_at hl 2 rfl) ?_
      refine lv_iconst (v := 1) hx hb dX3_wind_8 (by decide) ?_
      refine lv_icmp_lt (tgt := 19) hx hb dX3_wind_9 (by decide) (fun c_7 => ?_) (fun c_7 => ?_)
      · skip
        refine lv_aload_n hx hb dX3_wind_19 rfl (lv_at hl 0 rfl) ?_
        refine lv_bipush (v := (-2)) hx hb dX3_wind_20 (by decide) ?_
        refine k_callV (n := 1) (As := [.int (-2)]) (rest := []) (st1 := [.int (-2)]) (ws1 := ((x, .inr (3, [.ref (a 0), .ref sv, .ref tl, .ref er, .int sc])) :: (er, .inl (cI, 3, .inl (upd z 0 ((z 0) + 1)))) :: stW cI a r e ((tl, .inr (2, [.int n0, .int m0, .int p0, .int w0, .int s0, .int f0])) :: (sv, .inl (cS, 5, .inr (.inr (.inr (.inr (fun i => some (sa i 0))))))) :: svW cI sa sr se ([])))) S G (c_X3_refuse_2 l D cI cS (a 0) x sv tl er sc z) gX3_wind_X3_refuse rfl (by decide +kernel) ⟨⟨rfl, rfl⟩, Nat.le_of_ble_eq_true rfl, Nat.le_of_ble_eq_true rfl⟩ [0, 1] (by decide) rfl [x, er] rfl rfl 0 rfl rfl rfl hl.1 rfl (Nat.le_of_ble_eq_true rfl) ⟨Nat.zero_le _, Nat.zero_le _⟩ dX3_wind_22 rfl rfl (fun H locs G => ?_)
        have es : (s_X3_wind sc z r e sa sr se tn q) = ((-2), sc, (upd z 0 ((z 0) + 1)), r, sa, sr, se) := by rw [s_X3_wind, if_neg c_1, if_pos c_5, if_pos c_7]
        exact k_iret S G hr hlk dX3_wind_25 (by first | (rw [es]; done) | (rw [es]; rfl) | (simp only [es]; done) | (simp only [es]; rfl)) (by first | (rw [es]; done) | (rw [es]; rfl) | (simp only [es]; done) | (simp only [es]; rfl))
      · skip
        refine lv_iload_n hx hb dX3_wind_12 rfl (lv_at hl 2 rfl) ?_
        refine lv_sipush (v := 2000) hx hb dX3_wind_13 (by decide) ?_
        refine lv_icmp_le (tgt := 26) hx hb dX3_wind_16 (by decide) (fun c_8 => ?_) (fun c_8 => ?_)
        · skip
          refine lv_aload_n hx hb dX3_wind_26 rfl (lv_at hl 0 rfl) ?_
          refine k_callA (n := 0) (As := []) (rest := []) (st1 := []) (ws1 := ((x, .inr (3, [.ref (a 0), .ref sv, .ref tl, .ref er, .int (sSc sc)])) :: (er, .inl (cI, 3, .inl z)) :: stW cI a r e ((tl, .inr (2, [.int n0, .int m0, .int p0, .int w0, .int s0, .int f0])) :: (sv, .inl (cS, 5, .inr (.inr (.inr (.inr (fun i => some ((sSa sc sa) i 0))))))) :: svW cI (sSa sc sa) (sSr sc sr r) (sSe sc se e) ([])))) S G (c_X3_save l D cI cS x sv tl er sc z a r e n0 m0 p0 w0 s0 f0 sa sr se hsc) gX3_wind_X3_save rfl (by decide +kernel) ⟨⟨rfl, rfl⟩, Nat.le_of_ble_eq_true rfl, Nat.le_of_ble_eq_true rfl⟩ 0 rfl rfl rfl hl.1 rfl (Nat.le_of_ble_eq_true rfl) ⟨Nat.zero_le _, Nat.zero_le _⟩ dX3_wind_27 rfl rfl (fun H locs G => ?_)
          refine lv_aload_n hx hb dX3_wind_30 rfl (lv_at hl 0 rfl) ?_
          refine k_get (v := .ref (a 0)) S G 0 rfl rfl hiX3 0 (by decide) hf10 rfl dX3_wind_31 ?_
          refine lv_iload_n hx hb dX3_wind_34 rfl (lv_at hl 1 rfl) ?_
          refine k_callV (n := 1) (As := [.int 1]) (rest := []) (st1 := [.ref (a 2)]) (ws1 := ((x, .inr (3, [.ref (a 0), .ref sv, .ref tl, .ref er, .int (sSc sc)])) :: (er, .inl (cI, 3, .inl z)) :: stW cI a r e ((tl, .inr (2, [.int n0, .int m0, .int p0, .int w0, .int s0, .int f0])) :: (sv, .inl (cS, 5, .inr (.inr (.inr (.inr (fun i => some ((sSa sc sa) i 0))))))) :: svW cI (sSa sc sa) (sSr sc sr r) (sSe sc se e) ([])))) S G (c_X0_trainOf_1 l D cI cS a r e) gX3_wind_X0_trainOf rfl (by decide +kernel) ⟨⟨rfl, rfl⟩, Nat.le_of_ble_eq_true rfl, Nat.le_of_ble_eq_true rfl⟩ [2, 3, 4, 5, 6, 7, 8] (by decide) rfl [(a 0), (a 1), (a 2), (a 3), (a 4), (a 5), (a 6)] rfl rfl 2 rfl rfl rfl hl.1 rfl (Nat.le_of_ble_eq_true rfl) ⟨Nat.zero_le _, Nat.zero_le _⟩ dX3_wind_35 rfl rfl (fun H locs G => ?_)
          refine lv_astore_n (lv' := [(3, .ref (a 2)), (0, .ref x), (1, .int 1), (2, .int q)]) hx hb dX3_wind_38 rfl hl (by decide) rfl (fun ls hl => ?_)
          refine lv_iload_n hx hb dX3_wind_39 rfl (lv_at hl 3 rfl) ?_
          refine lv_sipush (v := 2000) hx hb dX3_wind_40 (by decide) ?_
          refine lv_aload_n hx hb dX3_wind_43 rfl (lv_at hl 0 rfl) ?_
          refine k_get (v := .int (r 11)) S G 4 rfl rfl hiX2 3 (by decide) hf74 rfl dX3_wind_44 ?_
          refine lv_isub hx hb dX3_wind_47 ?_
          refine k_mmin S hl.1 hmL hmS hmI hmC (Nat.le_of_ble_eq_true rfl) (Nat.le_of_ble_eq_true rfl) ⟨Nat.zero_le _, Nat.zero_le _⟩ dX3_wind_48 ?_
          refine lv_istore (lv' := [(4, .int (if (2000 - (r 11)) < q then (2000 - (r 11)) else q)), (3, .ref (a 2)), (0, .ref x), (1, .int 1), (2, .int q)]) hx hb dX3_wind_51 hl (by decide) rfl (fun ls hl => ?_)
          refine lv_aload_n hx hb dX3_wind_53 rfl (lv_at hl 1 rfl) ?_
          refine lv_dup hx hb dX3_wind_54 rfl ?_
          refine k_get (v := .int (r 11)) S G 4 rfl rfl hiX2 3 (by decide) hf74 rfl dX3_wind_55 ?_
          refine lv_iload hx hb dX3_wind_58 (lv_at hl 0 rfl) ?_
          refine lv_iadd hx hb dX3_wind_60 ?_
          refine k_put (ws1 := ((x, .inr (3, [.ref (a 0), .ref sv, .ref tl, .ref er, .int (sSc sc)])) :: (er, .inl (cI, 3, .inl z)) :: stW cI a (upd r 11 ((r 11) + (if (2000 - (r 11)) < q then (2000 - (r 11)) else q))) e ((tl, .inr (2, [.int n0, .int m0, .int p0, .int w0, .int s0, .int f0])) :: (sv, .inl (cS, 5, .inr (.inr (.inr (.inr (fun i => some ((sSa sc sa) i 0))))))) :: svW cI (sSa sc sa) (sSr sc sr r) (sSe sc se e) ([])))) S G 4 rfl rfl hiX2 tyX2 tyX2_ok nmX2 3 (by decide) hf74 rfl rfl rfl (Nat.le_of_ble_eq_true rfl) dX3_wind_61 rfl (fun H locs G => ?_)
          refine lv_iload hx hb dX3_wind_64 (lv_at hl 0 rfl) ?_
          have es : (s_X3_wind sc z r e sa sr se tn q) = ((if (2000 - (r 11)) < q then (2000 - (r 11)) else q), (sSc sc), z, (upd r 11 ((r 11) + (if (2000 - (r 11)) < q then (2000 - (r 11)) else q))), (sSa sc sa), (sSr sc sr r), (sSe sc se e)) := by rw [s_X3_wind, if_neg c_1, if_pos c_5, if_neg c_7, if_pos c_8]
          exact k_iret S G hr hlk dX3_wind_66 (by first | (rw [es]; done) | (rw [es]; rfl) | (simp only [es]; done) | (simp only [es]; rfl)) (by first | (rw [es]; done) | (rw [es]; rfl) | (simp only [es]; done) | (simp only [es]; rfl))
        · skip
          refine lv_aload_n hx hb dX3_wind_19 rfl (lv_at hl 0 rfl) ?_
          refine lv_bipush (v := (-2)) hx hb dX3_wind_20 (by decide) ?_
          refine k_callV (n := 1) (As := [.int (-2)]) (rest := []) (st1 := [.int (-2)]) (ws1 := ((x, .inr (3, [.ref (a 0), .ref sv, .ref tl, .ref er, .int sc])) :: (er, .inl (cI, 3, .inl (upd z 0 ((z 0) + 1)))) :: stW cI a r e ((tl, .inr (2, [.int n0, .int m0, .int p0, .int w0, .int s0, .int f0])) :: (sv, .inl (cS, 5, .inr (.inr (.inr (.inr (fun i => some (sa i 0))))))) :: svW cI sa sr se ([])))) S G (c_X3_refuse_2 l D cI cS (a 0) x sv tl er sc z) gX3_wind_X3_refuse rfl (by decide +kernel) ⟨⟨rfl, rfl⟩, Nat.le_of_ble_eq_true rfl, Nat.le_of_ble_eq_true rfl⟩ [0, 1] (by decide) rfl [x, er] rfl rfl 0 rfl rfl rfl hl.1 rfl (Nat.le_of_ble_eq_true rfl) ⟨Nat.zero_le _, Nat.zero_le _⟩ dX3_wind_22 rfl rfl (fun H locs G => ?_)
          have es : (s_X3_wind sc z r e sa sr se tn q) = ((-2), sc, (upd z 0 ((z 0) + 1)), r, sa, sr, se) := by rw [s_X3_wind, if_neg c_1, if_pos c_5, if_neg c_7, if_neg c_8]
          exact k_iret S G hr hlk dX3_wind_25 (by first | (rw [es]; done) | (rw [es]; rfl) | (simp only [es]; done) | (simp only [es]; rfl)) (by first | (rw [es]; done) | (rw [es]; rfl) | (simp only [es]; done) | (simp only [es]; rfl))
    · skip
      refine lv_iload_n hx hb dX3_wind_0 rfl (lv_at hl 1 rfl) ?_
      refine k_callS (n := 1) (As := [.int tn]) (rest := []) (st1 := [.int 0]) (ws1 := ((x, .inr (3, [.ref (a 0), .ref sv, .ref tl, .ref er, .int sc])) :: (er, .inl (cI, 3, .inl z)) :: stW cI a r e ((tl, .inr (2, [.int n0, .int m0, .int p0, .int w0, .int s0, .int f0])) :: (sv, .inl (cS, 5, .inr (.inr (.inr (.inr (fun i => some (sa i 0))))))) :: svW cI sa sr se ([])))) S G (c_X3_isTrain l D cI cS tn) gX3_wind_X3_isTrain rfl (by decide +kernel) ⟨⟨rfl, rfl⟩, Nat.le_of_ble_eq_true rfl, Nat.le_of_ble_eq_true rfl⟩ [] (by decide) rfl [] rfl rfl rfl hl.1 rfl (Nat.le_of_ble_eq_true rfl) ⟨Nat.zero_le _, Nat.zero_le _⟩ dX3_wind_1 (congrArg (fun z => Value.int z :: []) (by rw [s_X3_isTrain, if_neg c_1, if_neg c_5])) rfl (fun H locs G => ?_)
      refine lv_if_eq (tgt := 19) hx hb dX3_wind_4 (by decide) (fun c_9 => ?_) (fun c_9 => absurd c_9 (by decide))
      refine lv_aload_n hx hb dX3_wind_19 rfl (lv_at hl 0 rfl) ?_
      refine lv_bipush (v := (-2)) hx hb dX3_wind_20 (by decide) ?_
      refine k_callV (n := 1) (As := [.int (-2)]) (rest := []) (st1 := [.int (-2)]) (ws1 := ((x, .inr (3, [.ref (a 0), .ref sv, .ref tl, .ref er, .int sc])) :: (er, .inl (cI, 3, .inl (upd z 0 ((z 0) + 1)))) :: stW cI a r e ((tl, .inr (2, [.int n0, .int m0, .int p0, .int w0, .int s0, .int f0])) :: (sv, .inl (cS, 5, .inr (.inr (.inr (.inr (fun i => some (sa i 0))))))) :: svW cI sa sr se ([])))) S G (c_X3_refuse_2 l D cI cS (a 0) x sv tl er sc z) gX3_wind_X3_refuse rfl (by decide +kernel) ⟨⟨rfl, rfl⟩, Nat.le_of_ble_eq_true rfl, Nat.le_of_ble_eq_true rfl⟩ [0, 1] (by decide) rfl [x, er] rfl rfl 0 rfl rfl rfl hl.1 rfl (Nat.le_of_ble_eq_true rfl) ⟨Nat.zero_le _, Nat.zero_le _⟩ dX3_wind_22 rfl rfl (fun H locs G => ?_)
      have es : (s_X3_wind sc z r e sa sr se tn q) = ((-2), sc, (upd z 0 ((z 0) + 1)), r, sa, sr, se) := by rw [s_X3_wind, if_neg c_1, if_neg c_5]
      exact k_iret S G hr hlk dX3_wind_25 (by first | (rw [es]; done) | (rw [es]; rfl) | (simp only [es]; done) | (simp only [es]; rfl)) (by first | (rw [es]; done) | (rw [es]; rfl) | (simp only [es]; done) | (simp only [es]; rfl))
def s_X3_setHands (sc : Int32) (z : Nat → Int32) (r : Nat → Int32) (e : Nat → Nat → Int32) (sa : Nat → Nat → Nat) (sr : Nat → Nat → Int32) (se : Nat → Nat → Nat → Int32) (q : Int32) : Int32 × Int32 × (Nat → Int32) × (Nat → Int32) × (Nat → Nat → Nat) × (Nat → Nat → Int32) × (Nat → Nat → Nat → Int32) := (if (s_X3_isMinute q) = 0 then ((-2), sc, (upd z 0 ((z 0) + 1)), r, sa, sr, se) else ((r 0), (sSc sc), z, (upd r 0 q), (sSa sc sa), (sSr sc sr r), (sSe sc se e)))
set_option maxHeartbeats 4000000 in
set_option maxRecDepth 100000 in
theorem c_X3_setHands (l : Launch) (D : va_G) (cI cS : ClassId) (x : Nat) (sv : Nat) (tl : Nat) (er : Nat) (sc : Int32) (z : Nat → Int32) (a : Nat → Nat) (r : Nat → Int32) (e : Nat → Nat → Int32) (n0 : Int32) (m0 : Int32) (p0 : Int32) (w0 : Int32) (s0 : Int32) (f0 : Int32) (sa : Nat → Nat → Nat) (sr : Nat → Nat → Int32) (se : Nat → Nat → Nat → Int32) (q : Int32) (hsc : scOk sc) : Ct l yX3_setHands wsX3_setHands ({ frames := 3, cells := 0, slots := 0, locals := 63 }) D (tyL cI cS) [.ref x, .int q] ((x, .inr (3, [.ref (a 0), .ref sv, .ref tl, .ref er, .int sc])) :: (er, .inl (cI, 3, .inl z)) :: stW cI a r e ((tl, .inr (2, [.int n0, .int m0, .int p0, .int w0, .int s0, .int f0])) :: (sv, .inl (cS, 5, .inr (.inr (.inr (.inr (fun i => some (sa i 0))))))) :: svW cI sa sr se ([]))) (some (.int ((s_X3_setHands sc z r e sa sr se q).1))) ((x, .inr (3, [.ref (a 0), .ref sv, .ref tl, .ref er, .int ((s_X3_setHands sc z r e sa sr se q).2.1)])) :: (er, .inl (cI, 3, .inl ((s_X3_setHands sc z r e sa sr se q).2.2.1))) :: stW cI a ((s_X3_setHands sc z r e sa sr se q).2.2.2.1) e ((tl, .inr (2, [.int n0, .int m0, .int p0, .int w0, .int s0, .int f0])) :: (sv, .inl (cS, 5, .inr (.inr (.inr (.inr (fun i => some (((s_X3_setHands sc z r e sa sr se q).2.2.2.2.1) i 0))))))) :: svW cI ((s_X3_setHands sc z r e sa sr se q).2.2.2.2.1) ((s_X3_setHands sc z r e sa sr se q).2.2.2.2.2.1) ((s_X3_setHands sc z r e sa sr se q).2.2.2.2.2.2) ([]))) := by
  refine Ct.of (cc := cX3_setHands) (maxL := 3) (ret := (some .int)) (by decide) rfl (Nat.le_of_ble_eq_true rfl) ?_
  intro p ev s m args below meth c A ls S hr hlk G hl
  have hx := S.1
  have hb := S.2.1
  have hown : s.vm.findClass RX3 = some m.cls := S.2.2.2.1
  have hts := S.2.2.2.2
  have hl : lv_has ls 3 [(0, .ref x), (1, .int q)] := hl
  have hiX0 : ∀ w ∈ wsX00, w ∈ wsX3_setHands := by decide +kernel
  have hiX3 : ∀ w ∈ wsX30, w ∈ wsX3_setHands := by decide +kernel
  have hf10 := hts (.fieldLink RX3 10 "StrikingWork" "now" "LStrikingWork$State;") (by decide +kernel)
  have hf83 := hts (.fieldLink RX3 83 "StrikingWork$State" "minute" "I") (by decide +kernel)
  refine lv_iload_n hx hb dX3_setHands_0 rfl (lv_at hl 1 rfl) ?_
  refine k_callS (n := 1) (As := [.int q]) (rest := []) (st1 := [.int (s_X3_isMinute q)]) (ws1 := ((x, .inr (3, [.ref (a 0), .ref sv, .ref tl, .ref er, .int sc])) :: (er, .inl (cI, 3, .inl z)) :: stW cI a r e ((tl, .inr (2, [.int n0, .int m0, .int p0, .int w0, .int s0, .int f0])) :: (sv, .inl (cS, 5, .inr (.inr (.inr (.inr (fun i => some (sa i 0))))))) :: svW cI sa sr se ([])))) S G (c_X3_isMinute l D cI cS q) gX3_setHands_X3_isMinute rfl (by decide +kernel) ⟨⟨rfl, rfl⟩, Nat.le_of_ble_eq_true rfl, Nat.le_of_ble_eq_true rfl⟩ [] (by decide) rfl [] rfl rfl rfl hl.1 rfl (Nat.le_of_ble_eq_true rfl) ⟨Nat.zero_le _, Nat.zero_le _⟩ dX3_setHands_1 rfl rfl (fun H locs G => ?_)
  refine lv_if_ne (tgt := 14) hx hb dX3_setHands_4 (by decide) (fun c_1 => ?_) (fun c_1 => ?_)
  · skip
    refine lv_aload_n hx hb dX3_setHands_14 rfl (lv_at hl 0 rfl) ?_
    refine k_callA (n := 0) (As := []) (rest := []) (st1 := []) (ws1 := ((x, .inr (3, [.ref (a 0), .ref sv, .ref tl, .ref er, .int (sSc sc)])) :: (er, .inl (cI, 3, .inl z)) :: stW cI a r e ((tl, .inr (2, [.int n0, .int m0, .int p0, .int w0, .int s0, .int f0])) :: (sv, .inl (cS, 5, .inr (.inr (.inr (.inr (fun i => some ((sSa sc sa) i 0))))))) :: svW cI (sSa sc sa) (sSr sc sr r) (sSe sc se e) ([])))) S G (c_X3_save l D cI cS x sv tl er sc z a r e n0 m0 p0 w0 s0 f0 sa sr se hsc) gX3_setHands_X3_save rfl (by decide +kernel) ⟨⟨rfl, rfl⟩, Nat.le_of_ble_eq_true rfl, Nat.le_of_ble_eq_true rfl⟩ 0 rfl rfl rfl hl.1 rfl (Nat.le_of_ble_eq_true rfl) ⟨Nat.zero_le _, Nat.zero_le _⟩ dX3_setHands_15 rfl rfl (fun H locs G => ?_)
    refine lv_aload_n hx hb dX3_setHands_18 rfl (lv_at hl 0 rfl) ?_
    refine k_get (v := .ref (a 0)) S G 0 rfl rfl hiX3 0 (by decide) hf10 rfl dX3_setHands_19 ?_
    refine k_get (v := .int (r 0)) S G 2 rfl rfl hiX0 3 (by decide) hf83 rfl dX3_setHands_22 ?_
    refine lv_istore_n (lv' := [(2, .int (r 0)), (0, .ref x), (1, .int q)]) hx hb dX3_setHands_25 rfl hl (by decide) rfl (fun ls hl => ?_)
    refine lv_aload_n hx hb dX3_setHands_26 rfl (lv_at hl 1 rfl) ?_
    refine k_get (v := .ref (a 0)) S G 0 rfl rfl hiX3 0 (by decide) hf10 rfl dX3_setHands_27 ?_
    refine lv_iload_n hx hb dX3_setHands_30 rfl (lv_at hl 2 rfl) ?_
    refine k_put (ws1 := ((x, .inr (3, [.ref (a 0), .ref sv, .ref tl, .ref er, .int (sSc sc)])) :: (er, .inl (cI, 3, .inl z)) :: stW cI a (upd r 0 q) e ((tl, .inr (2, [.int n0, .int m0, .int p0, .int w0, .int s0, .int f0])) :: (sv, .inl (cS, 5, .inr (.inr (.inr (.inr (fun i => some ((sSa sc sa) i 0))))))) :: svW cI (sSa sc sa) (sSr sc sr r) (sSe sc se e) ([])))) S G 2 rfl rfl hiX0 tyX0 tyX0_ok nmX0 3 (by decide) hf83 rfl rfl rfl (Nat.le_of_ble_eq_true rfl) dX3_setHands_31 rfl (fun H locs G => ?_)
    refine lv_iload_n hx hb dX3_setHands_34 rfl (lv_at hl 0 rfl) ?_
    have es : (s_X3_setHands sc z r e sa sr se q) = ((r 0), (sSc sc), z, (upd r 0 q), (sSa sc sa), (sSr sc sr r), (sSe sc se e)) := by rw [s_X3_setHands, if_neg c_1]
    exact k_iret S G hr hlk dX3_setHands_35 (by first | (rw [es]; done) | (rw [es]; rfl) | (simp only [es]; done) | (simp only [es]; rfl)) (by first | (rw [es]; done) | (rw [es]; rfl) | (simp only [es]; done) | (simp only [es]; rfl))
  · skip
    refine lv_aload_n hx hb dX3_setHands_7 rfl (lv_at hl 0 rfl) ?_
    refine lv_bipush (v := (-2)) hx hb dX3_setHands_8 (by decide) ?_
    refine k_callV (n := 1) (As := [.int (-2)]) (rest := []) (st1 := [.int (-2)]) (ws1 := ((x, .inr (3, [.ref (a 0), .ref sv, .ref tl, .ref er, .int sc])) :: (er, .inl (cI, 3, .inl (upd z 0 ((z 0) + 1)))) :: stW cI a r e ((tl, .inr (2, [.int n0, .int m0, .int p0, .int w0, .int s0, .int f0])) :: (sv, .inl (cS, 5, .inr (.inr (.inr (.inr (fun i => some (sa i 0))))))) :: svW cI sa sr se ([])))) S G (c_X3_refuse_2 l D cI cS (a 0) x sv tl er sc z) gX3_setHands_X3_refuse rfl (by decide +kernel) ⟨⟨rfl, rfl⟩, Nat.le_of_ble_eq_true rfl, Nat.le_of_ble_eq_true rfl⟩ [0, 1] (by decide) rfl [x, er] rfl rfl 0 rfl rfl rfl hl.1 rfl (Nat.le_of_ble_eq_true rfl) ⟨Nat.zero_le _, Nat.zero_le _⟩ dX3_setHands_10 rfl rfl (fun H locs G => ?_)
    have es : (s_X3_setHands sc z r e sa sr se q) = ((-2), sc, (upd z 0 ((z 0) + 1)), r, sa, sr, se) := by rw [s_X3_setHands, if_pos c_1]
    exact k_iret S G hr hlk dX3_setHands_13 (by first | (rw [es]; done) | (rw [es]; rfl) | (simp only [es]; done) | (simp only [es]; rfl)) (by first | (rw [es]; done) | (rw [es]; rfl) | (simp only [es]; done) | (simp only [es]; rfl))
def s_X3_trip (sc : Int32) (z : Nat → Int32) (r : Nat → Int32) (e : Nat → Nat → Int32) (sa : Nat → Nat → Nat) (sr : Nat → Nat → Int32) (se : Nat → Nat → Nat → Int32) (tn : Int32) : Int32 × Int32 × (Nat → Int32) × (Nat → Int32) × (Nat → Nat → Int32) × (Nat → Nat → Nat) × (Nat → Nat → Int32) × (Nat → Nat → Nat → Int32) := (if tn = 0 then (if (s_X2_canStrike (r 4) (r 5) (r 6) (s_X2_dueAfter 0 (r 0))) = 0 then ((-3), sc, (upd z 1 ((z 1) + 1)), r, e, sa, sr, se) else ((s_X3_release_h r e (s_X2_dueAfter 0 (r 0)) 0).1, (sSc sc), z, (s_X3_release_h r e (s_X2_dueAfter 0 (r 0)) 0).2.1, (s_X3_release_h r e (s_X2_dueAfter 0 (r 0)) 0).2.2, (sSa sc sa), (sSr sc sr r), (sSe sc se e))) else (if tn = 1 then (if (s_X2_canStrike (r 9) (r 10) (r 11) (s_X2_dueAfter 1 (r 0))) = 0 then ((-3), sc, (upd z 1 ((z 1) + 1)), r, e, sa, sr, se) else ((s_X3_release_q r e (s_X2_dueAfter 1 (r 0)) 0).1, (sSc sc), z, (s_X3_release_q r e (s_X2_dueAfter 1 (r 0)) 0).2.1, (s_X3_release_q r e (s_X2_dueAfter 1 (r 0)) 0).2.2, (sSa sc sa), (sSr sc sr r), (sSe sc se e))) else ((-2), sc, (upd z 0 ((z 0) + 1)), r, e, sa, sr, se)))
set_option maxHeartbeats 4000000 in
set_option maxRecDepth 100000 in
theorem c_X3_trip (l : Launch) (D : va_G) (cI cS : ClassId) (x : Nat) (sv : Nat) (tl : Nat) (er : Nat) (sc : Int32) (z : Nat → Int32) (a : Nat → Nat) (r : Nat → Int32) (e : Nat → Nat → Int32) (n0 : Int32) (m0 : Int32) (p0 : Int32) (w0 : Int32) (s0 : Int32) (f0 : Int32) (sa : Nat → Nat → Nat) (sr : Nat → Nat → Int32) (se : Nat → Nat → Nat → Int32) (tn : Int32) (hsc : scOk sc) : Ct l yX3_trip wsX3_trip ({ frames := 4, cells := 0, slots := 0, locals := 88 }) D (tyL cI cS) [.ref x, .int tn] ((x, .inr (3, [.ref (a 0), .ref sv, .ref tl, .ref er, .int sc])) :: (er, .inl (cI, 3, .inl z)) :: stW cI a r e ((tl, .inr (2, [.int n0, .int m0, .int p0, .int w0, .int s0, .int f0])) :: (sv, .inl (cS, 5, .inr (.inr (.inr (.inr (fun i => some (sa i 0))))))) :: svW cI sa sr se ([]))) (some (.int ((s_X3_trip sc z r e sa sr se tn).1))) ((x, .inr (3, [.ref (a 0), .ref sv, .ref tl, .ref er, .int ((s_X3_trip sc z r e sa sr se tn).2.1)])) :: (er, .inl (cI, 3, .inl ((s_X3_trip sc z r e sa sr se tn).2.2.1))) :: stW cI a ((s_X3_trip sc z r e sa sr se tn).2.2.2.1) ((s_X3_trip sc z r e sa sr se tn).2.2.2.2.1) ((tl, .inr (2, [.int n0, .int m0, .int p0, .int w0, .int s0, .int f0])) :: (sv, .inl (cS, 5, .inr (.inr (.inr (.inr (fun i => some (((s_X3_trip sc z r e sa sr se tn).2.2.2.2.2.1) i 0))))))) :: svW cI ((s_X3_trip sc z r e sa sr se tn).2.2.2.2.2.1) ((s_X3_trip sc z r e sa sr se tn).2.2.2.2.2.2.1) ((s_X3_trip sc z r e sa sr se tn).2.2.2.2.2.2.2) ([]))) := by
  refine Ct.of (cc := cX3_trip) (maxL := 4) (ret := (some .int)) (by decide) rfl (Nat.le_of_ble_eq_true rfl) ?_
  intro p ev s m args below meth c A ls S hr hlk G hl
  have hx := S.1
  have hb := S.2.1
  have hown : s.vm.findClass RX3 = some m.cls := S.2.2.2.1
  have hts := S.2.2.2.2
  have hl : lv_has ls 4 [(0, .ref x), (1, .int tn)] := hl
  have hiX0 : ∀ w ∈ wsX00, w ∈ wsX3_trip := by decide +kernel
  have hiX3 : ∀ w ∈ wsX30, w ∈ wsX3_trip := by decide +kernel
  have hf10 := hts (.fieldLink RX3 10 "StrikingWork" "now" "LStrikingWork$State;") (by decide +kernel)
  have hf83 := hts (.fieldLink RX3 83 "StrikingWork$State" "minute" "I") (by decide +kernel)
  by_cases c_1 : tn = 0
  · skip
    have hl : lv_has ls 4 [(0, .ref x), (1, .int 0)] := by rw [← c_1]; exact hl
    refine lv_iload_n hx hb dX3_trip_0 rfl (lv_at hl 1 rfl) ?_
    refine k_callS (n := 1) (As := [.int 0]) (rest := []) (st1 := [.int 1]) (ws1 := ((x, .inr (3, [.ref (a 0), .ref sv, .ref tl, .ref er, .int sc])) :: (er, .inl (cI, 3, .inl z)) :: stW cI a r e ((tl, .inr (2, [.int n0, .int m0, .int p0, .int w0, .int s0, .int f0])) :: (sv, .inl (cS, 5, .inr (.inr (.inr (.inr (fun i => some (sa i 0))))))) :: svW cI sa sr se ([])))) S G (c_X3_isTrain l D cI cS 0) gX3_trip_X3_isTrain rfl (by decide +kernel) ⟨⟨rfl, rfl⟩, Nat.le_of_ble_eq_true rfl, Nat.le_of_ble_eq_true rfl⟩ [] (by decide) rfl [] rfl rfl rfl hl.1 rfl (Nat.le_of_ble_eq_true rfl) ⟨Nat.zero_le _, Nat.zero_le _⟩ dX3_trip_1 (congrArg (fun z => Value.int z :: []) (by decide : (s_X3_isTrain 0) = 1)) rfl (fun H locs G => ?_)
    refine lv_if_ne (tgt := 14) hx hb dX3_trip_4 (by decide) (fun c_2 => ?_) (fun c_2 => absurd c_2 (by decide))
    refine lv_aload_n hx hb dX3_trip_14 rfl (lv_at hl 0 rfl) ?_
    refine k_get (v := .ref (a 0)) S G 0 rfl rfl hiX3 0 (by decide) hf10 rfl dX3_trip_15 ?_
    refine lv_iload_n hx hb dX3_trip_18 rfl (lv_at hl 1 rfl) ?_
    refine k_callV (n := 1) (As := [.int 0]) (rest := []) (st1 := [.ref (a 1)]) (ws1 := ((x, .inr (3, [.ref (a 0), .ref sv, .ref tl, .ref er, .int sc])) :: (er, .inl (cI, 3, .inl z)) :: stW cI a r e ((tl, .inr (2, [.int n0, .int m0, .int p0, .int w0, .int s0, .int f0])) :: (sv, .inl (cS, 5, .inr (.inr (.inr (.inr (fun i => some (sa i 0))))))) :: svW cI sa sr se ([])))) S G (c_X0_trainOf_0 l D cI cS a r e) gX3_trip_X0_trainOf rfl (by decide +kernel) ⟨⟨rfl, rfl⟩, Nat.le_of_ble_eq_true rfl, Nat.le_of_ble_eq_true rfl⟩ [2, 3, 4, 5, 6, 7, 8] (by decide) rfl [(a 0), (a 1), (a 2), (a 3), (a 4), (a 5), (a 6)] rfl rfl 2 rfl rfl rfl hl.1 rfl (Nat.le_of_ble_eq_true rfl) ⟨Nat.zero_le _, Nat.zero_le _⟩ dX3_trip_19 rfl rfl (fun H locs G => ?_)
    refine lv_astore_n (lv' := [(2, .ref (a 1)), (0, .ref x), (1, .int 0)]) hx hb dX3_trip_22 rfl hl (by decide) rfl (fun ls hl => ?_)
    refine lv_aload_n hx hb dX3_trip_23 rfl (lv_at hl 0 rfl) ?_
    refine lv_aload_n hx hb dX3_trip_24 rfl (lv_at hl 1 rfl) ?_
    refine k_get (v := .ref (a 0)) S G 0 rfl rfl hiX3 0 (by decide) hf10 rfl dX3_trip_25 ?_
    refine k_get (v := .int (r 0)) S G 2 rfl rfl hiX0 3 (by decide) hf83 rfl dX3_trip_28 ?_
    refine k_callV (n := 1) (As := [.int (r 0)]) (rest := []) (st1 := [.int (s_X2_dueAfter 0 (r 0))]) (ws1 := ((x, .inr (3, [.ref (a 0), .ref sv, .ref tl, .ref er, .int sc])) :: (er, .inl (cI, 3, .inl z)) :: stW cI a r e ((tl, .inr (2, [.int n0, .int m0, .int p0, .int w0, .int s0, .int f0])) :: (sv, .inl (cS, 5, .inr (.inr (.inr (.inr (fun i => some (sa i 0))))))) :: svW cI sa sr se ([])))) S G (c_X2_dueAfter l D cI cS (a 1) 0 (r 4) (r 5) (r 6) (r 7) (r 8) (r 0)) gX3_trip_X2_dueAfter rfl (by decide +kernel) ⟨⟨rfl, rfl⟩, Nat.le_of_ble_eq_true rfl, Nat.le_of_ble_eq_true rfl⟩ [3] (by decide) rfl [(a 1)] rfl rfl 3 rfl rfl rfl hl.1 rfl (Nat.le_of_ble_eq_true rfl) ⟨Nat.zero_le _, Nat.zero_le _⟩ dX3_trip_31 rfl rfl (fun H locs G => ?_)
    refine lv_istore_n (lv' := [(3, .int (s_X2_dueAfter 0 (r 0))), (2, .ref (a 1)), (0, .ref x), (1, .int 0)]) hx hb dX3_trip_34 rfl hl (by decide) rfl (fun ls hl => ?_)
    refine lv_aload_n hx hb dX3_trip_35 rfl (lv_at hl 1 rfl) ?_
    refine lv_iload_n hx hb dX3_trip_36 rfl (lv_at hl 0 rfl) ?_
    refine k_callV (n := 1) (As := [.int (s_X2_dueAfter 0 (r 0))]) (rest := []) (st1 := [.int (s_X2_canStrike (r 4) (r 5) (r 6) (s_X2_dueAfter 0 (r 0)))]) (ws1 := ((x, .inr (3, [.ref (a 0), .ref sv, .ref tl, .ref er, .int sc])) :: (er, .inl (cI, 3, .inl z)) :: stW cI a r e ((tl, .inr (2, [.int n0, .int m0, .int p0, .int w0, .int s0, .int f0])) :: (sv, .inl (cS, 5, .inr (.inr (.inr (.inr (fun i => some (sa i 0))))))) :: svW cI sa sr se ([])))) S G (c_X2_canStrike l D cI cS (a 1) 0 (r 4) (r 5) (r 6) (r 7) (r 8) (s_X2_dueAfter 0 (r 0))) gX3_trip_X2_canStrike rfl (by decide +kernel) ⟨⟨rfl, rfl⟩, Nat.le_of_ble_eq_true rfl, Nat.le_of_ble_eq_true rfl⟩ [3] (by decide) rfl [(a 1)] rfl rfl 3 rfl rfl rfl hl.1 rfl (Nat.le_of_ble_eq_true rfl) ⟨Nat.zero_le _, Nat.zero_le _⟩ dX3_trip_37 rfl rfl (fun H locs G => ?_)
    refine lv_if_ne (tgt := 50) hx hb dX3_trip_40 (by decide) (fun c_3 => ?_) (fun c_3 => ?_)
    · skip
      refine lv_aload_n hx hb dX3_trip_50 rfl (lv_at hl 2 rfl) ?_
      refine k_callA (n := 0) (As := []) (rest := []) (st1 := []) (ws1 := ((x, .inr (3, [.ref (a 0), .ref sv, .ref tl, .ref er, .int (sSc sc)])) :: (er, .inl (cI, 3, .inl z)) :: stW cI a r e ((tl, .inr (2, [.int n0, .int m0, .int p0, .int w0, .int s0, .int f0])) :: (sv, .inl (cS, 5, .inr (.inr (.inr (.inr (fun i => some ((sSa sc sa) i 0))))))) :: svW cI (sSa sc sa) (sSr sc sr r) (sSe sc se e) ([])))) S G (c_X3_save l D cI cS x sv tl er sc z a r e n0 m0 p0 w0 s0 f0 sa sr se hsc) gX3_trip_X3_save rfl (by decide +kernel) ⟨⟨rfl, rfl⟩, Nat.le_of_ble_eq_true rfl, Nat.le_of_ble_eq_true rfl⟩ 0 rfl rfl rfl hl.1 rfl (Nat.le_of_ble_eq_true rfl) ⟨Nat.zero_le _, Nat.zero_le _⟩ dX3_trip_51 rfl rfl (fun H locs G => ?_)
      refine lv_aload_n hx hb dX3_trip_54 rfl (lv_at hl 2 rfl) ?_
      refine lv_aload_n hx hb dX3_trip_55 rfl (lv_at hl 1 rfl) ?_
      refine lv_iload_n hx hb dX3_trip_56 rfl (lv_at hl 0 rfl) ?_
      refine lv_iconst (v := 0) hx hb dX3_trip_57 (by decide) ?_
      refine k_callV (n := 3) (As := [.ref (a 1), .int (s_X2_dueAfter 0 (r 0)), .int 0]) (rest := []) (st1 := [.int ((s_X3_release_h r e (s_X2_dueAfter 0 (r 0)) 0).1)]) (ws1 := ((x, .inr (3, [.ref (a 0), .ref sv, .ref tl, .ref er, .int (sSc sc)])) :: (er, .inl (cI, 3, .inl z)) :: stW cI a ((s_X3_release_h r e (s_X2_dueAfter 0 (r 0)) 0).2.1) ((s_X3_release_h r e (s_X2_dueAfter 0 (r 0)) 0).2.2) ((tl, .inr (2, [.int n0, .int m0, .int p0, .int w0, .int s0, .int f0])) :: (sv, .inl (cS, 5, .inr (.inr (.inr (.inr (fun i => some ((sSa sc sa) i 0))))))) :: svW cI (sSa sc sa) (sSr sc sr r) (sSe sc se e) ([])))) S G (c_X3_release_h l D cI cS x sv tl er (sSc sc) z a r e (s_X2_dueAfter 0 (r 0)) 0) gX3_trip_X3_release rfl (by decide +kernel) ⟨⟨rfl, rfl⟩, Nat.le_of_ble_eq_true rfl, Nat.le_of_ble_eq_true rfl⟩ [0, 1, 2, 3, 4, 5, 6, 7, 8] (by decide) rfl [x, er, (a 0), (a 1), (a 2), (a 3), (a 4), (a 5), (a 6)] rfl rfl 0 rfl rfl rfl hl.1 rfl (Nat.le_of_ble_eq_true rfl) ⟨Nat.zero_le _, Nat.zero_le _⟩ dX3_trip_58 rfl rfl (fun H locs G => ?_)
      generalize hu1 : (s_X3_release_h r e (s_X2_dueAfter 0 (r 0)) 0) = u1 at G ⊢
      have es : (s_X3_trip sc z r e sa sr se tn) = (u1.1, (sSc sc), z, u1.2.1, u1.2.2, (sSa sc sa), (sSr sc sr r), (sSe sc se e)) := by rw [s_X3_trip, hu1, if_pos c_1, if_neg c_3]
      exact k_iret S G hr hlk dX3_trip_61 (by first | (rw [es]; done) | (rw [es]; rfl) | (simp only [es]; done) | (simp only [es]; rfl)) (by first | (rw [es]; done) | (rw [es]; rfl) | (simp only [es]; done) | (simp only [es]; rfl))
    · skip
      refine lv_aload_n hx hb dX3_trip_43 rfl (lv_at hl 2 rfl) ?_
      refine lv_bipush (v := (-3)) hx hb dX3_trip_44 (by decide) ?_
      refine k_callV (n := 1) (As := [.int (-3)]) (rest := []) (st1 := [.int (-3)]) (ws1 := ((x, .inr (3, [.ref (a 0), .ref sv, .ref tl, .ref er, .int sc])) :: (er, .inl (cI, 3, .inl (upd z 1 ((z 1) + 1)))) :: stW cI a r e ((tl, .inr (2, [.int n0, .int m0, .int p0, .int w0, .int s0, .int f0])) :: (sv, .inl (cS, 5, .inr (.inr (.inr (.inr (fun i => some (sa i 0))))))) :: svW cI sa sr se ([])))) S G (c_X3_refuse_3 l D cI cS (a 0) x sv tl er sc z) gX3_trip_X3_refuse rfl (by decide +kernel) ⟨⟨rfl, rfl⟩, Nat.le_of_ble_eq_true rfl, Nat.le_of_ble_eq_true rfl⟩ [0, 1] (by decide) rfl [x, er] rfl rfl 0 rfl rfl rfl hl.1 rfl (Nat.le_of_ble_eq_true rfl) ⟨Nat.zero_le _, Nat.zero_le _⟩ dX3_trip_46 rfl rfl (fun H locs G => ?_)
      have es : (s_X3_trip sc z r e sa sr se tn) = ((-3), sc, (upd z 1 ((z 1) + 1)), r, e, sa, sr, se) := by rw [s_X3_trip, if_pos c_1, if_pos c_3]
      exact k_iret S G hr hlk dX3_trip_49 (by first | (rw [es]; done) | (rw [es]; rfl) | (simp only [es]; done) | (simp only [es]; rfl)) (by first | (rw [es]; done) | (rw [es]; rfl) | (simp only [es]; done) | (simp only [es]; rfl))
  · skip
    by_cases c_4 : tn = 1
    · skip
      have hl : lv_has ls 4 [(0, .ref x), (1, .int 1)] := by rw [← c_4]; exact hl
      refine lv_iload_n hx hb dX3_trip_0 rfl (lv_at hl 1 rfl) ?_
      refine k_callS (n := 1) (As := [.int 1]) (rest := []) (st1 := [.int 1]) (ws1 := ((x, .inr (3, [.ref (a 0), .ref sv, .ref tl, .ref er, .int sc])) :: (er, .inl (cI, 3, .inl z)) :: stW cI a r e ((tl, .inr (2, [.int n0, .int m0, .int p0, .int w0, .int s0, .int f0])) :: (sv, .inl (cS, 5, .inr (.inr (.inr (.inr (fun i => some (sa i 0))))))) :: svW cI sa sr se ([])))) S G (c_X3_isTrain l D cI cS 1) gX3_trip_X3_isTrain rfl (by decide +kernel) ⟨⟨rfl, rfl⟩, Nat.le_of_ble_eq_true rfl, Nat.le_of_ble_eq_true rfl⟩ [] (by decide) rfl [] rfl rfl rfl hl.1 rfl (Nat.le_of_ble_eq_true rfl) ⟨Nat.zero_le _, Nat.zero_le _⟩ dX3_trip_1 (congrArg (fun z => Value.int z :: []) (by decide : (s_X3_isTrain 1) = 1)) rfl (fun H locs G => ?_)
      refine lv_if_ne (tgt := 14) hx hb dX3_trip_4 (by decide) (fun c_5 => ?_) (fun c_5 => absurd c_5 (by decide))
      refine lv_aload_n hx hb dX3_trip_14 rfl (lv_at hl 0 rfl) ?_
      refine k_get (v := .ref (a 0)) S G 0 rfl rfl hiX3 0 (by decide) hf10 rfl dX3_trip_15 ?_
      refine lv_iload_n hx hb dX3_trip_18 rfl (lv_at hl 1 rfl) ?_
      refine k_callV (n := 1) (As := [.int 1]) (rest := []) (st1 := [.ref (a 2)]) (ws1 := ((x, .inr (3, [.ref (a 0), .ref sv, .ref tl, .ref er, .int sc])) :: (er, .inl (cI, 3, .inl z)) :: stW cI a r e ((tl, .inr (2, [.int n0, .int m0, .int p0, .int w0, .int s0, .int f0])) :: (sv, .inl (cS, 5, .inr (.inr (.inr (.inr (fun i => some (sa i 0))))))) :: svW cI sa sr se ([])))) S G (c_X0_trainOf_1 l D cI cS a r e) gX3_trip_X0_trainOf rfl (by decide +kernel) ⟨⟨rfl, rfl⟩, Nat.le_of_ble_eq_true rfl, Nat.le_of_ble_eq_true rfl⟩ [2, 3, 4, 5, 6, 7, 8] (by decide) rfl [(a 0), (a 1), (a 2), (a 3), (a 4), (a 5), (a 6)] rfl rfl 2 rfl rfl rfl hl.1 rfl (Nat.le_of_ble_eq_true rfl) ⟨Nat.zero_le _, Nat.zero_le _⟩ dX3_trip_19 rfl rfl (fun H locs G => ?_)
      refine lv_astore_n (lv' := [(2, .ref (a 2)), (0, .ref x), (1, .int 1)]) hx hb dX3_trip_22 rfl hl (by decide) rfl (fun ls hl => ?_)
      refine lv_aload_n hx hb dX3_trip_23 rfl (lv_at hl 0 rfl) ?_
      refine lv_aload_n hx hb dX3_trip_24 rfl (lv_at hl 1 rfl) ?_
      refine k_get (v := .ref (a 0)) S G 0 rfl rfl hiX3 0 (by decide) hf10 rfl dX3_trip_25 ?_
      refine k_get (v := .int (r 0)) S G 2 rfl rfl hiX0 3 (by decide) hf83 rfl dX3_trip_28 ?_
      refine k_callV (n := 1) (As := [.int (r 0)]) (rest := []) (st1 := [.int (s_X2_dueAfter 1 (r 0))]) (ws1 := ((x, .inr (3, [.ref (a 0), .ref sv, .ref tl, .ref er, .int sc])) :: (er, .inl (cI, 3, .inl z)) :: stW cI a r e ((tl, .inr (2, [.int n0, .int m0, .int p0, .int w0, .int s0, .int f0])) :: (sv, .inl (cS, 5, .inr (.inr (.inr (.inr (fun i => some (sa i 0))))))) :: svW cI sa sr se ([])))) S G (c_X2_dueAfter l D cI cS (a 2) 1 (r 9) (r 10) (r 11) (r 12) (r 13) (r 0)) gX3_trip_X2_dueAfter rfl (by decide +kernel) ⟨⟨rfl, rfl⟩, Nat.le_of_ble_eq_true rfl, Nat.le_of_ble_eq_true rfl⟩ [4] (by decide) rfl [(a 2)] rfl rfl 4 rfl rfl rfl hl.1 rfl (Nat.le_of_ble_eq_true rfl) ⟨Nat.zero_le _, Nat.zero_le _⟩ dX3_trip_31 rfl rfl (fun H locs G => ?_)
      refine lv_istore_n (lv' := [(3, .int (s_X2_dueAfter 1 (r 0))), (2, .ref (a 2)), (0, .ref x), (1, .int 1)]) hx hb dX3_trip_34 rfl hl (by decide) rfl (fun ls hl => ?_)
      refine lv_aload_n hx hb dX3_trip_35 rfl (lv_at hl 1 rfl) ?_
      refine lv_iload_n hx hb dX3_trip_36 rfl (lv_at hl 0 rfl) ?_
      refine k_callV (n := 1) (As := [.int (s_X2_dueAfter 1 (r 0))]) (rest := []) (st1 := [.int (s_X2_canStrike (r 9) (r 10) (r 11) (s_X2_dueAfter 1 (r 0)))]) (ws1 := ((x, .inr (3, [.ref (a 0), .ref sv, .ref tl, .ref er, .int sc])) :: (er, .inl (cI, 3, .inl z)) :: stW cI a r e ((tl, .inr (2, [.int n0, .int m0, .int p0, .int w0, .int s0, .int f0])) :: (sv, .inl (cS, 5, .inr (.inr (.inr (.inr (fun i => some (sa i 0))))))) :: svW cI sa sr se ([])))) S G (c_X2_canStrike l D cI cS (a 2) 1 (r 9) (r 10) (r 11) (r 12) (r 13) (s_X2_dueAfter 1 (r 0))) gX3_trip_X2_canStrike rfl (by decide +kernel) ⟨⟨rfl, rfl⟩, Nat.le_of_ble_eq_true rfl, Nat.le_of_ble_eq_true rfl⟩ [4] (by decide) rfl [(a 2)] rfl rfl 4 rfl rfl rfl hl.1 rfl (Nat.le_of_ble_eq_true rfl) ⟨Nat.zero_le _, Nat.zero_le _⟩ dX3_trip_37 rfl rfl (fun H locs G => ?_)
      refine lv_if_ne (tgt := 50) hx hb dX3_trip_40 (by decide) (fun c_6 => ?_) (fun c_6 => ?_)
      · skip
        refine lv_aload_n hx hb dX3_trip_50 rfl (lv_at hl 2 rfl) ?_
        refine k_callA (n := 0) (As := []) (rest := []) (st1 := []) (ws1 := ((x, .inr (3, [.ref (a 0), .ref sv, .ref tl, .ref er, .int (sSc sc)])) :: (er, .inl (cI, 3, .inl z)) :: stW cI a r e ((tl, .inr (2, [.int n0, .int m0, .int p0, .int w0, .int s0, .int f0])) :: (sv, .inl (cS, 5, .inr (.inr (.inr (.inr (fun i => some ((sSa sc sa) i 0))))))) :: svW cI (sSa sc sa) (sSr sc sr r) (sSe sc se e) ([])))) S G (c_X3_save l D cI cS x sv tl er sc z a r e n0 m0 p0 w0 s0 f0 sa sr se hsc) gX3_trip_X3_save rfl (by decide +kernel) ⟨⟨rfl, rfl⟩, Nat.le_of_ble_eq_true rfl, Nat.le_of_ble_eq_true rfl⟩ 0 rfl rfl rfl hl.1 rfl (Nat.le_of_ble_eq_true rfl) ⟨Nat.zero_le _, Nat.zero_le _⟩ dX3_trip_51 rfl rfl (fun H locs G => ?_)
        refine lv_aload_n hx hb dX3_trip_54 rfl (lv_at hl 2 rfl) ?_
        refine lv_aload_n hx hb dX3_trip_55 rfl (lv_at hl 1 rfl) ?_
        refine lv_iload_n hx hb dX3_trip_56 rfl (lv_at hl 0 rfl) ?_
        refine lv_iconst (v := 0) hx hb dX3_trip_57 (by decide) ?_
        refine k_callV (n := 3) (As := [.ref (a 2), .int (s_X2_dueAfter 1 (r 0)), .int 0]) (rest := []) (st1 := [.int ((s_X3_release_q r e (s_X2_dueAfter 1 (r 0)) 0).1)]) (ws1 := ((x, .inr (3, [.ref (a 0), .ref sv, .ref tl, .ref er, .int (sSc sc)])) :: (er, .inl (cI, 3, .inl z)) :: stW cI a ((s_X3_release_q r e (s_X2_dueAfter 1 (r 0)) 0).2.1) ((s_X3_release_q r e (s_X2_dueAfter 1 (r 0)) 0).2.2) ((tl, .inr (2, [.int n0, .int m0, .int p0, .int w0, .int s0, .int f0])) :: (sv, .inl (cS, 5, .inr (.inr (.inr (.inr (fun i => some ((sSa sc sa) i 0))))))) :: svW cI (sSa sc sa) (sSr sc sr r) (sSe sc se e) ([])))) S G (c_X3_release_q l D cI cS x sv tl er (sSc sc) z a r e (s_X2_dueAfter 1 (r 0)) 0) gX3_trip_X3_release rfl (by decide +kernel) ⟨⟨rfl, rfl⟩, Nat.le_of_ble_eq_true rfl, Nat.le_of_ble_eq_true rfl⟩ [0, 1, 2, 3, 4, 5, 6, 7, 8] (by decide) rfl [x, er, (a 0), (a 1), (a 2), (a 3), (a 4), (a 5), (a 6)] rfl rfl 0 rfl rfl rfl hl.1 rfl (Nat.le_of_ble_eq_true rfl) ⟨Nat.zero_le _, Nat.zero_le _⟩ dX3_trip_58 rfl rfl (fun H locs G => ?_)
        generalize hu2 : (s_X3_release_q r e (s_X2_dueAfter 1 (r 0)) 0) = u2 at G ⊢
        have es : (s_X3_trip sc z r e sa sr se tn) = (u2.1, (sSc sc), z, u2.2.1, u2.2.2, (sSa sc sa), (sSr sc sr r), (sSe sc se e)) := by rw [s_X3_trip, hu2, if_neg c_1, if_pos c_4, if_neg c_6]
        exact k_iret S G hr hlk dX3_trip_61 (by first | (rw [es]; done) | (rw [es]; rfl) | (simp only [es]; done) | (simp only [es]; rfl)) (by first | (rw [es]; done) | (rw [es]; rfl) | (simp only [es]; done) | (simp only [es]; rfl))
      · skip
        refine lv_aload_n hx hb dX3_trip_43 rfl (lv_at hl 2 rfl) ?_
        refine lv_bipush (v := (-3)) hx hb dX3_trip_44 (by decide) ?_
        refine k_callV (n := 1) (As := [.int (-3)]) (rest := []) (st1 := [.int (-3)]) (ws1 := ((x, .inr (3, [.ref (a 0), .ref sv, .ref tl, .ref er, .int sc])) :: (er, .inl (cI, 3, .inl (upd z 1 ((z 1) + 1)))) :: stW cI a r e ((tl, .inr (2, [.int n0, .int m0, .int p0, .int w0, .int s0, .int f0])) :: (sv, .inl (cS, 5, .inr (.inr (.inr (.inr (fun i => some (sa i 0))))))) :: svW cI sa sr se ([])))) S G (c_X3_refuse_3 l D cI cS (a 0) x sv tl er sc z) gX3_trip_X3_refuse rfl (by decide +kernel) ⟨⟨rfl, rfl⟩, Nat.le_of_ble_eq_true rfl, Nat.le_of_ble_eq_true rfl⟩ [0, 1] (by decide) rfl [x, er] rfl rfl 0 rfl rfl rfl hl.1 rfl (Nat.le_of_ble_eq_true rfl) ⟨Nat.zero_le _, Nat.zero_le _⟩ dX3_trip_46 rfl rfl (fun H locs G => ?_)
        have es : (s_X3_trip sc z r e sa sr se tn) = ((-3), sc, (upd z 1 ((z 1) + 1)), r, e, sa, sr, se) := by rw [s_X3_trip, if_neg c_1, if_pos c_4, if_pos c_6]
        exact k_iret S G hr hlk dX3_trip_49 (by first | (rw [es]; done) | (rw [es]; rfl) | (simp only [es]; done) | (simp only [es]; rfl)) (by first | (rw [es]; done) | (rw [es]; rfl) | (simp only [es]; done) | (simp only [es]; rfl))
    · skip
      refine lv_iload_n hx hb dX3_trip_0 rfl (lv_at hl 1 rfl) ?_
      refine k_callS (n := 1) (As := [.int tn]) (rest := []) (st1 := [.int 0]) (ws1 := ((x, .inr (3, [.ref (a 0), .ref sv, .ref tl, .ref er, .int sc])) :: (er, .inl (cI, 3, .inl z)) :: stW cI a r e ((tl, .inr (2, [.int n0, .int m0, .int p0, .int w0, .int s0, .int f0])) :: (sv, .inl (cS, 5, .inr (.inr (.inr (.inr (fun i => some (sa i 0))))))) :: svW cI sa sr se ([])))) S G (c_X3_isTrain l D cI cS tn) gX3_trip_X3_isTrain rfl (by decide +kernel) ⟨⟨rfl, rfl⟩, Nat.le_of_ble_eq_true rfl, Nat.le_of_ble_eq_true rfl⟩ [] (by decide) rfl [] rfl rfl rfl hl.1 rfl (Nat.le_of_ble_eq_true rfl) ⟨Nat.zero_le _, Nat.zero_le _⟩ dX3_trip_1 (congrArg (fun z => Value.int z :: []) (by rw [s_X3_isTrain, if_neg c_1, if_neg c_4])) rfl (fun H locs G => ?_)
      refine lv_if_ne (tgt := 14) hx hb dX3_trip_4 (by decide) (fun c_7 => absurd c_7 (by decide)) (fun c_7 => ?_)
      refine lv_aload_n hx hb dX3_trip_7 rfl (lv_at hl 0 rfl) ?_
      refine lv_bipush (v := (-2)) hx hb dX3_trip_8 (by decide) ?_
      refine k_callV (n := 1) (As := [.int (-2)]) (rest := []) (st1 := [.int (-2)]) (ws1 := ((x, .inr (3, [.ref (a 0), .ref sv, .ref tl, .ref er, .int sc])) :: (er, .inl (cI, 3, .inl (upd z 0 ((z 0) + 1)))) :: stW cI a r e ((tl, .inr (2, [.int n0, .int m0, .int p0, .int w0, .int s0, .int f0])) :: (sv, .inl (cS, 5, .inr (.inr (.inr (.inr (fun i => some (sa i 0))))))) :: svW cI sa sr se ([])))) S G (c_X3_refuse_2 l D cI cS (a 0) x sv tl er sc z) gX3_trip_X3_refuse rfl (by decide +kernel) ⟨⟨rfl, rfl⟩, Nat.le_of_ble_eq_true rfl, Nat.le_of_ble_eq_true rfl⟩ [0, 1] (by decide) rfl [x, er] rfl rfl 0 rfl rfl rfl hl.1 rfl (Nat.le_of_ble_eq_true rfl) ⟨Nat.zero_le _, Nat.zero_le _⟩ dX3_trip_10 rfl rfl (fun H locs G => ?_)
      have es : (s_X3_trip sc z r e sa sr se tn) = ((-2), sc, (upd z 0 ((z 0) + 1)), r, e, sa, sr, se) := by rw [s_X3_trip, if_neg c_1, if_neg c_4]
      exact k_iret S G hr hlk dX3_trip_13 (by first | (rw [es]; done) | (rw [es]; rfl) | (simp only [es]; done) | (simp only [es]; rfl)) (by first | (rw [es]; done) | (rw [es]; rfl) | (simp only [es]; done) | (simp only [es]; rfl))
set_option maxHeartbeats 4000000 in
set_option maxRecDepth 100000 in
theorem c_X3_undo_0 (l : Launch) (D : va_G) (cI cS : ClassId) (x : Nat) (sv : Nat) (tl : Nat) (er : Nat) (z : Nat → Int32) (a : Nat → Nat) (r : Nat → Int32) (e : Nat → Nat → Int32) (n0 : Int32) (m0 : Int32) (p0 : Int32) (w0 : Int32) (s0 : Int32) (f0 : Int32) (sa : Nat → Nat → Nat) (sr : Nat → Nat → Int32) (se : Nat → Nat → Nat → Int32) : Ct l yX3_undo wsX3_undo ({ frames := 2, cells := 0, slots := 0, locals := 43 }) D (tyL cI cS) [.ref x] ((x, .inr (3, [.ref (a 0), .ref sv, .ref tl, .ref er, .int 0])) :: (er, .inl (cI, 3, .inl z)) :: stW cI a r e ((tl, .inr (2, [.int n0, .int m0, .int p0, .int w0, .int s0, .int f0])) :: (sv, .inl (cS, 5, .inr (.inr (.inr (.inr (fun i => some (sa i 0))))))) :: stW cI (sa 0) (sr 0) (se 0) (stW cI (sa 1) (sr 1) (se 1) (stW cI (sa 2) (sr 2) (se 2) (stW cI (sa 3) (sr 3) (se 3) (stW cI (sa 4) (sr 4) (se 4) ([]))))))) (some (.int (-4))) ((x, .inr (3, [.ref (a 0), .ref sv, .ref tl, .ref er, .int 0])) :: (er, .inl (cI, 3, .inl (upd z 2 ((z 2) + 1)))) :: stW cI a r e ((tl, .inr (2, [.int n0, .int m0, .int p0, .int w0, .int s0, .int f0])) :: (sv, .inl (cS, 5, .inr (.inr (.inr (.inr (fun i => some (sa i 0))))))) :: stW cI (sa 0) (sr 0) (se 0) (stW cI (sa 1) (sr 1) (se 1) (stW cI (sa 2) (sr 2) (se 2) (stW cI (sa 3) (sr 3) (se 3) (stW cI (sa 4) (sr 4) (se 4) ([]))))))) := by
  refine Ct.of (cc := cX3_undo) (maxL := 1) (ret := (some .int)) (by decide) rfl (Nat.le_of_ble_eq_true rfl) ?_
  intro p ev s m args below meth c A ls S hr hlk G hl
  have hx := S.1
  have hb := S.2.1
  have hown : s.vm.findClass RX3 = some m.cls := S.2.2.2.1
  have hts := S.2.2.2.2
  have hl : lv_has ls 1 [(0, .ref x)] := hl
  have hiX3 : ∀ w ∈ wsX30, w ∈ wsX3_undo := by decide +kernel
  have hf33 := hts (.fieldLink RX3 33 "StrikingWork" "savedCount" "I") (by decide +kernel)
  refine lv_aload_n hx hb dX3_undo_0 rfl (lv_at hl 0 rfl) ?_
  refine k_get (v := .int 0) S G 0 rfl rfl hiX3 4 (by decide) hf33 rfl dX3_undo_1 ?_
  refine lv_if_gt (tgt := 14) hx hb dX3_undo_4 (by decide) (fun c_1 => absurd c_1 (by decide)) (fun c_1 => ?_)
  refine lv_aload_n hx hb dX3_undo_7 rfl (lv_at hl 0 rfl) ?_
  refine lv_bipush (v := (-4)) hx hb dX3_undo_8 (by decide) ?_
  refine k_callV (n := 1) (As := [.int (-4)]) (rest := []) (st1 := [.int (-4)]) (ws1 := ((x, .inr (3, [.ref (a 0), .ref sv, .ref tl, .ref er, .int 0])) :: (er, .inl (cI, 3, .inl (upd z 2 ((z 2) + 1)))) :: stW cI a r e ((tl, .inr (2, [.int n0, .int m0, .int p0, .int w0, .int s0, .int f0])) :: (sv, .inl (cS, 5, .inr (.inr (.inr (.inr (fun i => some (sa i 0))))))) :: stW cI (sa 0) (sr 0) (se 0) (stW cI (sa 1) (sr 1) (se 1) (stW cI (sa 2) (sr 2) (se 2) (stW cI (sa 3) (sr 3) (se 3) (stW cI (sa 4) (sr 4) (se 4) ([])))))))) S G (c_X3_refuse_4 l D cI cS (a 0) x sv tl er 0 z) gX3_undo_X3_refuse rfl (by decide +kernel) ⟨⟨rfl, rfl⟩, Nat.le_of_ble_eq_true rfl, Nat.le_of_ble_eq_true rfl⟩ [0, 1] (by decide) rfl [x, er] rfl rfl 0 rfl rfl rfl hl.1 rfl (Nat.le_of_ble_eq_true rfl) ⟨Nat.zero_le _, Nat.zero_le _⟩ dX3_undo_10 rfl rfl (fun H locs G => ?_)
  exact k_iret S G hr hlk dX3_undo_13 rfl rfl
set_option maxHeartbeats 4000000 in
set_option maxRecDepth 100000 in
theorem c_X3_undo_1 (l : Launch) (D : va_G) (cI cS : ClassId) (x : Nat) (sv : Nat) (tl : Nat) (er : Nat) (z : Nat → Int32) (a : Nat → Nat) (r : Nat → Int32) (e : Nat → Nat → Int32) (n0 : Int32) (m0 : Int32) (p0 : Int32) (w0 : Int32) (s0 : Int32) (f0 : Int32) (sa : Nat → Nat → Nat) (sr : Nat → Nat → Int32) (se : Nat → Nat → Nat → Int32) : Ct l yX3_undo wsX3_undo ({ frames := 2, cells := 0, slots := 0, locals := 43 }) D (tyL cI cS) [.ref x] ((x, .inr (3, [.ref (a 0), .ref sv, .ref tl, .ref er, .int 1])) :: (er, .inl (cI, 3, .inl z)) :: stW cI a r e ((tl, .inr (2, [.int n0, .int m0, .int p0, .int w0, .int s0, .int f0])) :: (sv, .inl (cS, 5, .inr (.inr (.inr (.inr (fun i => some (sa i 0))))))) :: stW cI (sa 0) (sr 0) (se 0) (stW cI (sa 1) (sr 1) (se 1) (stW cI (sa 2) (sr 2) (se 2) (stW cI (sa 3) (sr 3) (se 3) (stW cI (sa 4) (sr 4) (se 4) ([]))))))) (some (.int 0)) ((x, .inr (3, [.ref (a 0), .ref sv, .ref tl, .ref er, .int 0])) :: (er, .inl (cI, 3, .inl z)) :: stW cI a (sr 0) (se 0) ((tl, .inr (2, [.int n0, .int m0, .int p0, .int w0, .int s0, .int f0])) :: (sv, .inl (cS, 5, .inr (.inr (.inr (.inr (fun i => some (sa i 0))))))) :: stW cI (sa 0) (sr 0) (se 0) (stW cI (sa 1) (sr 1) (se 1) (stW cI (sa 2) (sr 2) (se 2) (stW cI (sa 3) (sr 3) (se 3) (stW cI (sa 4) (sr 4) (se 4) ([]))))))) := by
  refine Ct.of (cc := cX3_undo) (maxL := 1) (ret := (some .int)) (by decide) rfl (Nat.le_of_ble_eq_true rfl) ?_
  intro p ev s m args below meth c A ls S hr hlk G hl
  have hx := S.1
  have hb := S.2.1
  have hown : s.vm.findClass RX3 = some m.cls := S.2.2.2.1
  have hts := S.2.2.2.2
  have hl : lv_has ls 1 [(0, .ref x)] := hl
  have hiX3 : ∀ w ∈ wsX30, w ∈ wsX3_undo := by decide +kernel
  have hf10 := hts (.fieldLink RX3 10 "StrikingWork" "now" "LStrikingWork$State;") (by decide +kernel)
  have hf16 := hts (.fieldLink RX3 16 "StrikingWork" "saved" "[LStrikingWork$State;") (by decide +kernel)
  have hf33 := hts (.fieldLink RX3 33 "StrikingWork" "savedCount" "I") (by decide +kernel)
  refine lv_aload_n hx hb dX3_undo_0 rfl (lv_at hl 0 rfl) ?_
  refine k_get (v := .int 1) S G 0 rfl rfl hiX3 4 (by decide) hf33 rfl dX3_undo_1 ?_
  refine lv_if_gt (tgt := 14) hx hb dX3_undo_4 (by decide) (fun c_1 => ?_) (fun c_1 => absurd c_1 (by decide))
  refine lv_aload_n hx hb dX3_undo_14 rfl (lv_at hl 0 rfl) ?_
  refine lv_dup hx hb dX3_undo_15 rfl ?_
  refine k_get (v := .int 1) S G 0 rfl rfl hiX3 4 (by decide) hf33 rfl dX3_undo_16 ?_
  refine lv_iconst (v := 1) hx hb dX3_undo_19 (by decide) ?_
  refine lv_isub hx hb dX3_undo_20 ?_
  refine lv_lit (v := 0) (by decide) ?_
  refine k_put (ws1 := ((x, .inr (3, [.ref (a 0), .ref sv, .ref tl, .ref er, .int 0])) :: (er, .inl (cI, 3, .inl z)) :: stW cI a r e ((tl, .inr (2, [.int n0, .int m0, .int p0, .int w0, .int s0, .int f0])) :: (sv, .inl (cS, 5, .inr (.inr (.inr (.inr (fun i => some (sa i 0))))))) :: stW cI (sa 0) (sr 0) (se 0) (stW cI (sa 1) (sr 1) (se 1) (stW cI (sa 2) (sr 2) (se 2) (stW cI (sa 3) (sr 3) (se 3) (stW cI (sa 4) (sr 4) (se 4) ([])))))))) S G 0 rfl rfl hiX3 tyX3 tyX3_ok nmX3 4 (by decide) hf33 rfl rfl rfl (Nat.le_of_ble_eq_true rfl) dX3_undo_21 rfl (fun H locs G => ?_)
  refine lv_aload_n hx hb dX3_undo_24 rfl (lv_at hl 0 rfl) ?_
  refine k_get (v := .ref (a 0)) S G 0 rfl rfl hiX3 0 (by decide) hf10 rfl dX3_undo_25 ?_
  refine lv_aload_n hx hb dX3_undo_28 rfl (lv_at hl 0 rfl) ?_
  refine k_get (v := .ref sv) S G 0 rfl rfl hiX3 1 (by decide) hf16 rfl dX3_undo_29 ?_
  refine lv_aload_n hx hb dX3_undo_32 rfl (lv_at hl 0 rfl) ?_
  refine k_get (v := .int 0) S G 0 rfl rfl hiX3 4 (by decide) hf33 rfl dX3_undo_33 ?_
  refine k_aald (x := ((sa 0) 0)) S G 10 1 rfl rfl (by unfold vp_in; decide) rfl dX3_undo_36 ?_
  refine k_callV (n := 1) (As := [.ref ((sa 0) 0)]) (rest := []) (st1 := []) (ws1 := ((x, .inr (3, [.ref (a 0), .ref sv, .ref tl, .ref er, .int 0])) :: (er, .inl (cI, 3, .inl z)) :: stW cI a (sr 0) (se 0) ((tl, .inr (2, [.int n0, .int m0, .int p0, .int w0, .int s0, .int f0])) :: (sv, .inl (cS, 5, .inr (.inr (.inr (.inr (fun i => some (sa i 0))))))) :: stW cI (sa 0) (sr 0) (se 0) (stW cI (sa 1) (sr 1) (se 1) (stW cI (sa 2) (sr 2) (se 2) (stW cI (sa 3) (sr 3) (se 3) (stW cI (sa 4) (sr 4) (se 4) ([])))))))) S G (c_X0_copyFrom l D cI cS a r e (sa 0) (sr 0) (se 0)) gX3_undo_X0_copyFrom rfl (by decide +kernel) ⟨⟨rfl, rfl⟩, Nat.le_of_ble_eq_true rfl, Nat.le_of_ble_eq_true rfl⟩ [2, 3, 4, 5, 6, 7, 8, 11, 12, 13, 14, 15, 16, 17] (by decide) rfl [(a 0), (a 1), (a 2), (a 3), (a 4), (a 5), (a 6), ((sa 0) 0), ((sa 0) 1), ((sa 0) 2), ((sa 0) 3), ((sa 0) 4), ((sa 0) 5), ((sa 0) 6)] rfl rfl 2 rfl rfl rfl hl.1 rfl (Nat.le_of_ble_eq_true rfl) ⟨Nat.zero_le _, Nat.zero_le _⟩ dX3_undo_37 rfl rfl (fun H locs G => ?_)
  refine lv_aload_n hx hb dX3_undo_40 rfl (lv_at hl 0 rfl) ?_
  refine k_get (v := .int 0) S G 0 rfl rfl hiX3 4 (by decide) hf33 rfl dX3_undo_41 ?_
  exact k_iret S G hr hlk dX3_undo_44 rfl rfl
set_option maxHeartbeats 4000000 in
set_option maxRecDepth 100000 in
theorem c_X3_undo_2 (l : Launch) (D : va_G) (cI cS : ClassId) (x : Nat) (sv : Nat) (tl : Nat) (er : Nat) (z : Nat → Int32) (a : Nat → Nat) (r : Nat → Int32) (e : Nat → Nat → Int32) (n0 : Int32) (m0 : Int32) (p0 : Int32) (w0 : Int32) (s0 : Int32) (f0 : Int32) (sa : Nat → Nat → Nat) (sr : Nat → Nat → Int32) (se : Nat → Nat → Nat → Int32) : Ct l yX3_undo wsX3_undo ({ frames := 2, cells := 0, slots := 0, locals := 43 }) D (tyL cI cS) [.ref x] ((x, .inr (3, [.ref (a 0), .ref sv, .ref tl, .ref er, .int 2])) :: (er, .inl (cI, 3, .inl z)) :: stW cI a r e ((tl, .inr (2, [.int n0, .int m0, .int p0, .int w0, .int s0, .int f0])) :: (sv, .inl (cS, 5, .inr (.inr (.inr (.inr (fun i => some (sa i 0))))))) :: stW cI (sa 0) (sr 0) (se 0) (stW cI (sa 1) (sr 1) (se 1) (stW cI (sa 2) (sr 2) (se 2) (stW cI (sa 3) (sr 3) (se 3) (stW cI (sa 4) (sr 4) (se 4) ([]))))))) (some (.int 1)) ((x, .inr (3, [.ref (a 0), .ref sv, .ref tl, .ref er, .int 1])) :: (er, .inl (cI, 3, .inl z)) :: stW cI a (sr 1) (se 1) ((tl, .inr (2, [.int n0, .int m0, .int p0, .int w0, .int s0, .int f0])) :: (sv, .inl (cS, 5, .inr (.inr (.inr (.inr (fun i => some (sa i 0))))))) :: stW cI (sa 0) (sr 0) (se 0) (stW cI (sa 1) (sr 1) (se 1) (stW cI (sa 2) (sr 2) (se 2) (stW cI (sa 3) (sr 3) (se 3) (stW cI (sa 4) (sr 4) (se 4) ([]))))))) := by
  refine Ct.of (cc := cX3_undo) (maxL := 1) (ret := (some .int)) (by decide) rfl (Nat.le_of_ble_eq_true rfl) ?_
  intro p ev s m args below meth c A ls S hr hlk G hl
  have hx := S.1
  have hb := S.2.1
  have hown : s.vm.findClass RX3 = some m.cls := S.2.2.2.1
  have hts := S.2.2.2.2
  have hl : lv_has ls 1 [(0, .ref x)] := hl
  have hiX3 : ∀ w ∈ wsX30, w ∈ wsX3_undo := by decide +kernel
  have hf10 := hts (.fieldLink RX3 10 "StrikingWork" "now" "LStrikingWork$State;") (by decide +kernel)
  have hf16 := hts (.fieldLink RX3 16 "StrikingWork" "saved" "[LStrikingWork$State;") (by decide +kernel)
  have hf33 := hts (.fieldLink RX3 33 "StrikingWork" "savedCount" "I") (by decide +kernel)
  refine lv_aload_n hx hb dX3_undo_0 rfl (lv_at hl 0 rfl) ?_
  refine k_get (v := .int 2) S G 0 rfl rfl hiX3 4 (by decide) hf33 rfl dX3_undo_1 ?_
  refine lv_if_gt (tgt := 14) hx hb dX3_undo_4 (by decide) (fun c_1 => ?_) (fun c_1 => absurd c_1 (by decide))
  refine lv_aload_n hx hb dX3_undo_14 rfl (lv_at hl 0 rfl) ?_
  refine lv_dup hx hb dX3_undo_15 rfl ?_
  refine k_get (v := .int 2) S G 0 rfl rfl hiX3 4 (by decide) hf33 rfl dX3_undo_16 ?_
  refine lv_iconst (v := 1) hx hb dX3_undo_19 (by decide) ?_
  refine lv_isub hx hb dX3_undo_20 ?_
  refine lv_lit (v := 1) (by decide) ?_
  refine k_put (ws1 := ((x, .inr (3, [.ref (a 0), .ref sv, .ref tl, .ref er, .int 1])) :: (er, .inl (cI, 3, .inl z)) :: stW cI a r e ((tl, .inr (2, [.int n0, .int m0, .int p0, .int w0, .int s0, .int f0])) :: (sv, .inl (cS, 5, .inr (.inr (.inr (.inr (fun i => some (sa i 0))))))) :: stW cI (sa 0) (sr 0) (se 0) (stW cI (sa 1) (sr 1) (se 1) (stW cI (sa 2) (sr 2) (se 2) (stW cI (sa 3) (sr 3) (se 3) (stW cI (sa 4) (sr 4) (se 4) ([])))))))) S G 0 rfl rfl hiX3 tyX3 tyX3_ok nmX3 4 (by decide) hf33 rfl rfl rfl (Nat.le_of_ble_eq_true rfl) dX3_undo_21 rfl (fun H locs G => ?_)
  refine lv_aload_n hx hb dX3_undo_24 rfl (lv_at hl 0 rfl) ?_
  refine k_get (v := .ref (a 0)) S G 0 rfl rfl hiX3 0 (by decide) hf10 rfl dX3_undo_25 ?_
  refine lv_aload_n hx hb dX3_undo_28 rfl (lv_at hl 0 rfl) ?_
  refine k_get (v := .ref sv) S G 0 rfl rfl hiX3 1 (by decide) hf16 rfl dX3_undo_29 ?_
  refine lv_aload_n hx hb dX3_undo_32 rfl (lv_at hl 0 rfl) ?_
  refine k_get (v := .int 1) S G 0 rfl rfl hiX3 4 (by decide) hf33 rfl dX3_undo_33 ?_
  refine k_aald (x := ((sa 1) 0)) S G 10 1 rfl rfl (by unfold vp_in; decide) rfl dX3_undo_36 ?_
  refine k_callV (n := 1) (As := [.ref ((sa 1) 0)]) (rest := []) (st1 := []) (ws1 := ((x, .inr (3, [.ref (a 0), .ref sv, .ref tl, .ref er, .int 1])) :: (er, .inl (cI, 3, .inl z)) :: stW cI a (sr 1) (se 1) ((tl, .inr (2, [.int n0, .int m0, .int p0, .int w0, .int s0, .int f0])) :: (sv, .inl (cS, 5, .inr (.inr (.inr (.inr (fun i => some (sa i 0))))))) :: stW cI (sa 0) (sr 0) (se 0) (stW cI (sa 1) (sr 1) (se 1) (stW cI (sa 2) (sr 2) (se 2) (stW cI (sa 3) (sr 3) (se 3) (stW cI (sa 4) (sr 4) (se 4) ([])))))))) S G (c_X0_copyFrom l D cI cS a r e (sa 1) (sr 1) (se 1)) gX3_undo_X0_copyFrom rfl (by decide +kernel) ⟨⟨rfl, rfl⟩, Nat.le_of_ble_eq_true rfl, Nat.le_of_ble_eq_true rfl⟩ [2, 3, 4, 5, 6, 7, 8, 18, 19, 20, 21, 22, 23, 24] (by decide) rfl [(a 0), (a 1), (a 2), (a 3), (a 4), (a 5), (a 6), ((sa 1) 0), ((sa 1) 1), ((sa 1) 2), ((sa 1) 3), ((sa 1) 4), ((sa 1) 5), ((sa 1) 6)] rfl rfl 2 rfl rfl rfl hl.1 rfl (Nat.le_of_ble_eq_true rfl) ⟨Nat.zero_le _, Nat.zero_le _⟩ dX3_undo_37 rfl rfl (fun H locs G => ?_)
  refine lv_aload_n hx hb dX3_undo_40 rfl (lv_at hl 0 rfl) ?_
  refine k_get (v := .int 1) S G 0 rfl rfl hiX3 4 (by decide) hf33 rfl dX3_undo_41 ?_
  exact k_iret S G hr hlk dX3_undo_44 rfl rfl
set_option maxHeartbeats 4000000 in
set_option maxRecDepth 100000 in
theorem c_X3_undo_3 (l : Launch) (D : va_G) (cI cS : ClassId) (x : Nat) (sv : Nat) (tl : Nat) (er : Nat) (z : Nat → Int32) (a : Nat → Nat) (r : Nat → Int32) (e : Nat → Nat → Int32) (n0 : Int32) (m0 : Int32) (p0 : Int32) (w0 : Int32) (s0 : Int32) (f0 : Int32) (sa : Nat → Nat → Nat) (sr : Nat → Nat → Int32) (se : Nat → Nat → Nat → Int32) : Ct l yX3_undo wsX3_undo ({ frames := 2, cells := 0, slots := 0, locals := 43 }) D (tyL cI cS) [.ref x] ((x, .inr (3, [.ref (a 0), .ref sv, .ref tl, .ref er, .int 3])) :: (er, .inl (cI, 3, .inl z)) :: stW cI a r e ((tl, .inr (2, [.int n0, .int m0, .int p0, .int w0, .int s0, .int f0])) :: (sv, .inl (cS, 5, .inr (.inr (.inr (.inr (fun i => some (sa i 0))))))) :: stW cI (sa 0) (sr 0) (se 0) (stW cI (sa 1) (sr 1) (se 1) (stW cI (sa 2) (sr 2) (se 2) (stW cI (sa 3) (sr 3) (se 3) (stW cI (sa 4) (sr 4) (se 4) ([]))))))) (some (.int 2)) ((x, .inr (3, [.ref (a 0), .ref sv, .ref tl, .ref er, .int 2])) :: (er, .inl (cI, 3, .inl z)) :: stW cI a (sr 2) (se 2) ((tl, .inr (2, [.int n0, .int m0, .int p0, .int w0, .int s0, .int f0])) :: (sv, .inl (cS, 5, .inr (.inr (.inr (.inr (fun i => some (sa i 0))))))) :: stW cI (sa 0) (sr 0) (se 0) (stW cI (sa 1) (sr 1) (se 1) (stW cI (sa 2) (sr 2) (se 2) (stW cI (sa 3) (sr 3) (se 3) (stW cI (sa 4) (sr 4) (se 4) ([]))))))) := by
  refine Ct.of (cc := cX3_undo) (maxL := 1) (ret := (some .int)) (by decide) rfl (Nat.le_of_ble_eq_true rfl) ?_
  intro p ev s m args below meth c A ls S hr hlk G hl
  have hx := S.1
  have hb := S.2.1
  have hown : s.vm.findClass RX3 = some m.cls := S.2.2.2.1
  have hts := S.2.2.2.2
  have hl : lv_has ls 1 [(0, .ref x)] := hl
  have hiX3 : ∀ w ∈ wsX30, w ∈ wsX3_undo := by decide +kernel
  have hf10 := hts (.fieldLink RX3 10 "StrikingWork" "now" "LStrikingWork$State;") (by decide +kernel)
  have hf16 := hts (.fieldLink RX3 16 "StrikingWork" "saved" "[LStrikingWork$State;") (by decide +kernel)
  have hf33 := hts (.fieldLink RX3 33 "StrikingWork" "savedCount" "I") (by decide +kernel)
  refine lv_aload_n hx hb dX3_undo_0 rfl (lv_at hl 0 rfl) ?_
  refine k_get (v := .int 3) S G 0 rfl rfl hiX3 4 (by decide) hf33 rfl dX3_undo_1 ?_
  refine lv_if_gt (tgt := 14) hx hb dX3_undo_4 (by decide) (fun c_1 => ?_) (fun c_1 => absurd c_1 (by decide))
  refine lv_aload_n hx hb dX3_undo_14 rfl (lv_at hl 0 rfl) ?_
  refine lv_dup hx hb dX3_undo_15 rfl ?_
  refine k_get (v := .int 3) S G 0 rfl rfl hiX3 4 (by decide) hf33 rfl dX3_undo_16 ?_
  refine lv_iconst (v := 1) hx hb dX3_undo_19 (by decide) ?_
  refine lv_isub hx hb dX3_undo_20 ?_
  refine lv_lit (v := 2) (by decide) ?_
  refine k_put (ws1 := ((x, .inr (3, [.ref (a 0), .ref sv, .ref tl, .ref er, .int 2])) :: (er, .inl (cI, 3, .inl z)) :: stW cI a r e ((tl, .inr (2, [.int n0, .int m0, .int p0, .int w0, .int s0, .int f0])) :: (sv, .inl (cS, 5, .inr (.inr (.inr (.inr (fun i => some (sa i 0))))))) :: stW cI (sa 0) (sr 0) (se 0) (stW cI (sa 1) (sr 1) (se 1) (stW cI (sa 2) (sr 2) (se 2) (stW cI (sa 3) (sr 3) (se 3) (stW cI (sa 4) (sr 4) (se 4) ([])))))))) S G 0 rfl rfl hiX3 tyX3 tyX3_ok nmX3 4 (by decide) hf33 rfl rfl rfl (Nat.le_of_ble_eq_true rfl) dX3_undo_21 rfl (fun H locs G => ?_)
  refine lv_aload_n hx hb dX3_undo_24 rfl (lv_at hl 0 rfl) ?_
  refine k_get (v := .ref (a 0)) S G 0 rfl rfl hiX3 0 (by decide) hf10 rfl dX3_undo_25 ?_
  refine lv_aload_n hx hb dX3_undo_28 rfl (lv_at hl 0 rfl) ?_
  refine k_get (v := .ref sv) S G 0 rfl rfl hiX3 1 (by decide) hf16 rfl dX3_undo_29 ?_
  refine lv_aload_n hx hb dX3_undo_32 rfl (lv_at hl 0 rfl) ?_
  refine k_get (v := .int 2) S G 0 rfl rfl hiX3 4 (by decide) hf33 rfl dX3_undo_33 ?_
  refine k_aald (x := ((sa 2) 0)) S G 10 1 rfl rfl (by unfold vp_in; decide) rfl dX3_undo_36 ?_
  refine k_callV (n := 1) (As := [.ref ((sa 2) 0)]) (rest := []) (st1 := []) (ws1 := ((x, .inr (3, [.ref (a 0), .ref sv, .ref tl, .ref er, .int 2])) :: (er, .inl (cI, 3, .inl z)) :: stW cI a (sr 2) (se 2) ((tl, .inr (2, [.int n0, .int m0, .int p0, .int w0, .int s0, .int f0])) :: (sv, .inl (cS, 5, .inr (.inr (.inr (.inr (fun i => some (sa i 0))))))) :: stW cI (sa 0) (sr 0) (se 0) (stW cI (sa 1) (sr 1) (se 1) (stW cI (sa 2) (sr 2) (se 2) (stW cI (sa 3) (sr 3) (se 3) (stW cI (sa 4) (sr 4) (se 4) ([])))))))) S G (c_X0_copyFrom l D cI cS a r e (sa 2) (sr 2) (se 2)) gX3_undo_X0_copyFrom rfl (by decide +kernel) ⟨⟨rfl, rfl⟩, Nat.le_of_ble_eq_true rfl, Nat.le_of_ble_eq_true rfl⟩ [2, 3, 4, 5, 6, 7, 8, 25, 26, 27, 28, 29, 30, 31] (by decide) rfl [(a 0), (a 1), (a 2), (a 3), (a 4), (a 5), (a 6), ((sa 2) 0), ((sa 2) 1), ((sa 2) 2), ((sa 2) 3), ((sa 2) 4), ((sa 2) 5), ((sa 2) 6)] rfl rfl 2 rfl rfl rfl hl.1 rfl (Nat.le_of_ble_eq_true rfl) ⟨Nat.zero_le _, Nat.zero_le _⟩ dX3_undo_37 rfl rfl (fun H locs G => ?_)
  refine lv_aload_n hx hb dX3_undo_40 rfl (lv_at hl 0 rfl) ?_
  refine k_get (v := .int 2) S G 0 rfl rfl hiX3 4 (by decide) hf33 rfl dX3_undo_41 ?_
  exact k_iret S G hr hlk dX3_undo_44 rfl rfl
set_option maxHeartbeats 4000000 in
set_option maxRecDepth 100000 in
theorem c_X3_undo_4 (l : Launch) (D : va_G) (cI cS : ClassId) (x : Nat) (sv : Nat) (tl : Nat) (er : Nat) (z : Nat → Int32) (a : Nat → Nat) (r : Nat → Int32) (e : Nat → Nat → Int32) (n0 : Int32) (m0 : Int32) (p0 : Int32) (w0 : Int32) (s0 : Int32) (f0 : Int32) (sa : Nat → Nat → Nat) (sr : Nat → Nat → Int32) (se : Nat → Nat → Nat → Int32) : Ct l yX3_undo wsX3_undo ({ frames := 2, cells := 0, slots := 0, locals := 43 }) D (tyL cI cS) [.ref x] ((x, .inr (3, [.ref (a 0), .ref sv, .ref tl, .ref er, .int 4])) :: (er, .inl (cI, 3, .inl z)) :: stW cI a r e ((tl, .inr (2, [.int n0, .int m0, .int p0, .int w0, .int s0, .int f0])) :: (sv, .inl (cS, 5, .inr (.inr (.inr (.inr (fun i => some (sa i 0))))))) :: stW cI (sa 0) (sr 0) (se 0) (stW cI (sa 1) (sr 1) (se 1) (stW cI (sa 2) (sr 2) (se 2) (stW cI (sa 3) (sr 3) (se 3) (stW cI (sa 4) (sr 4) (se 4) ([]))))))) (some (.int 3)) ((x, .inr (3, [.ref (a 0), .ref sv, .ref tl, .ref er, .int 3])) :: (er, .inl (cI, 3, .inl z)) :: stW cI a (sr 3) (se 3) ((tl, .inr (2, [.int n0, .int m0, .int p0, .int w0, .int s0, .int f0])) :: (sv, .inl (cS, 5, .inr (.inr (.inr (.inr (fun i => some (sa i 0))))))) :: stW cI (sa 0) (sr 0) (se 0) (stW cI (sa 1) (sr 1) (se 1) (stW cI (sa 2) (sr 2) (se 2) (stW cI (sa 3) (sr 3) (se 3) (stW cI (sa 4) (sr 4) (se 4) ([]))))))) := by
  refine Ct.of (cc := cX3_undo) (maxL := 1) (ret := (some .int)) (by decide) rfl (Nat.le_of_ble_eq_true rfl) ?_
  intro p ev s m args below meth c A ls S hr hlk G hl
  have hx := S.1
  have hb := S.2.1
  have hown : s.vm.findClass RX3 = some m.cls := S.2.2.2.1
  have hts := S.2.2.2.2
  have hl : lv_has ls 1 [(0, .ref x)] := hl
  have hiX3 : ∀ w ∈ wsX30, w ∈ wsX3_undo := by decide +kernel
  have hf10 := hts (.fieldLink RX3 10 "StrikingWork" "now" "LStrikingWork$State;") (by decide +kernel)
  have hf16 := hts (.fieldLink RX3 16 "StrikingWork" "saved" "[LStrikingWork$State;") (by decide +kernel)
  have hf33 := hts (.fieldLink RX3 33 "StrikingWork" "savedCount" "I") (by decide +kernel)
  refine lv_aload_n hx hb dX3_undo_0 rfl (lv_at hl 0 rfl) ?_
  refine k_get (v := .int 4) S G 0 rfl rfl hiX3 4 (by decide) hf33 rfl dX3_undo_1 ?_
  refine lv_if_gt (tgt := 14) hx hb dX3_undo_4 (by decide) (fun c_1 => ?_) (fun c_1 => absurd c_1 (by decide))
  refine lv_aload_n hx hb dX3_undo_14 rfl (lv_at hl 0 rfl) ?_
  refine lv_dup hx hb dX3_undo_15 rfl ?_
  refine k_get (v := .int 4) S G 0 rfl rfl hiX3 4 (by decide) hf33 rfl dX3_undo_16 ?_
  refine lv_iconst (v := 1) hx hb dX3_undo_19 (by decide) ?_
  refine lv_isub hx hb dX3_undo_20 ?_
  refine lv_lit (v := 3) (by decide) ?_
  refine k_put (ws1 := ((x, .inr (3, [.ref (a 0), .ref sv, .ref tl, .ref er, .int 3])) :: (er, .inl (cI, 3, .inl z)) :: stW cI a r e ((tl, .inr (2, [.int n0, .int m0, .int p0, .int w0, .int s0, .int f0])) :: (sv, .inl (cS, 5, .inr (.inr (.inr (.inr (fun i => some (sa i 0))))))) :: stW cI (sa 0) (sr 0) (se 0) (stW cI (sa 1) (sr 1) (se 1) (stW cI (sa 2) (sr 2) (se 2) (stW cI (sa 3) (sr 3) (se 3) (stW cI (sa 4) (sr 4) (se 4) ([])))))))) S G 0 rfl rfl hiX3 tyX3 tyX3_ok nmX3 4 (by decide) hf33 rfl rfl rfl (Nat.le_of_ble_eq_true rfl) dX3_undo_21 rfl (fun H locs G => ?_)
  refine lv_aload_n hx hb dX3_undo_24 rfl (lv_at hl 0 rfl) ?_
  refine k_get (v := .ref (a 0)) S G 0 rfl rfl hiX3 0 (by decide) hf10 rfl dX3_undo_25 ?_
  refine lv_aload_n hx hb dX3_undo_28 rfl (lv_at hl 0 rfl) ?_
  refine k_get (v := .ref sv) S G 0 rfl rfl hiX3 1 (by decide) hf16 rfl dX3_undo_29 ?_
  refine lv_aload_n hx hb dX3_undo_32 rfl (lv_at hl 0 rfl) ?_
  refine k_get (v := .int 3) S G 0 rfl rfl hiX3 4 (by decide) hf33 rfl dX3_undo_33 ?_
  refine k_aald (x := ((sa 3) 0)) S G 10 1 rfl rfl (by unfold vp_in; decide) rfl dX3_undo_36 ?_
  refine k_callV (n := 1) (As := [.ref ((sa 3) 0)]) (rest := []) (st1 := []) (ws1 := ((x, .inr (3, [.ref (a 0), .ref sv, .ref tl, .ref er, .int 3])) :: (er, .inl (cI, 3, .inl z)) :: stW cI a (sr 3) (se 3) ((tl, .inr (2, [.int n0, .int m0, .int p0, .int w0, .int s0, .int f0])) :: (sv, .inl (cS, 5, .inr (.inr (.inr (.inr (fun i => some (sa i 0))))))) :: stW cI (sa 0) (sr 0) (se 0) (stW cI (sa 1) (sr 1) (se 1) (stW cI (sa 2) (sr 2) (se 2) (stW cI (sa 3) (sr 3) (se 3) (stW cI (sa 4) (sr 4) (se 4) ([])))))))) S G (c_X0_copyFrom l D cI cS a r e (sa 3) (sr 3) (se 3)) gX3_undo_X0_copyFrom rfl (by decide +kernel) ⟨⟨rfl, rfl⟩, Nat.le_of_ble_eq_true rfl, Nat.le_of_ble_eq_true rfl⟩ [2, 3, 4, 5, 6, 7, 8, 32, 33, 34, 35, 36, 37, 38] (by decide) rfl [(a 0), (a 1), (a 2), (a 3), (a 4), (a 5), (a 6), ((sa 3) 0), ((sa 3) 1), ((sa 3) 2), ((sa 3) 3), ((sa 3) 4), ((sa 3) 5), ((sa 3) 6)] rfl rfl 2 rfl rfl rfl hl.1 rfl (Nat.le_of_ble_eq_true rfl) ⟨Nat.zero_le _, Nat.zero_le _⟩ dX3_undo_37 rfl rfl (fun H locs G => ?_)
  refine lv_aload_n hx hb dX3_undo_40 rfl (lv_at hl 0 rfl) ?_
  refine k_get (v := .int 3) S G 0 rfl rfl hiX3 4 (by decide) hf33 rfl dX3_undo_41 ?_
  exact k_iret S G hr hlk dX3_undo_44 rfl rfl
set_option maxHeartbeats 4000000 in
set_option maxRecDepth 100000 in
theorem c_X3_undo_5 (l : Launch) (D : va_G) (cI cS : ClassId) (x : Nat) (sv : Nat) (tl : Nat) (er : Nat) (z : Nat → Int32) (a : Nat → Nat) (r : Nat → Int32) (e : Nat → Nat → Int32) (n0 : Int32) (m0 : Int32) (p0 : Int32) (w0 : Int32) (s0 : Int32) (f0 : Int32) (sa : Nat → Nat → Nat) (sr : Nat → Nat → Int32) (se : Nat → Nat → Nat → Int32) : Ct l yX3_undo wsX3_undo ({ frames := 2, cells := 0, slots := 0, locals := 43 }) D (tyL cI cS) [.ref x] ((x, .inr (3, [.ref (a 0), .ref sv, .ref tl, .ref er, .int 5])) :: (er, .inl (cI, 3, .inl z)) :: stW cI a r e ((tl, .inr (2, [.int n0, .int m0, .int p0, .int w0, .int s0, .int f0])) :: (sv, .inl (cS, 5, .inr (.inr (.inr (.inr (fun i => some (sa i 0))))))) :: stW cI (sa 0) (sr 0) (se 0) (stW cI (sa 1) (sr 1) (se 1) (stW cI (sa 2) (sr 2) (se 2) (stW cI (sa 3) (sr 3) (se 3) (stW cI (sa 4) (sr 4) (se 4) ([]))))))) (some (.int 4)) ((x, .inr (3, [.ref (a 0), .ref sv, .ref tl, .ref er, .int 4])) :: (er, .inl (cI, 3, .inl z)) :: stW cI a (sr 4) (se 4) ((tl, .inr (2, [.int n0, .int m0, .int p0, .int w0, .int s0, .int f0])) :: (sv, .inl (cS, 5, .inr (.inr (.inr (.inr (fun i => some (sa i 0))))))) :: stW cI (sa 0) (sr 0) (se 0) (stW cI (sa 1) (sr 1) (se 1) (stW cI (sa 2) (sr 2) (se 2) (stW cI (sa 3) (sr 3) (se 3) (stW cI (sa 4) (sr 4) (se 4) ([]))))))) := by
  refine Ct.of (cc := cX3_undo) (maxL := 1) (ret := (some .int)) (by decide) rfl (Nat.le_of_ble_eq_true rfl) ?_
  intro p ev s m args below meth c A ls S hr hlk G hl
  have hx := S.1
  have hb := S.2.1
  have hown : s.vm.findClass RX3 = some m.cls := S.2.2.2.1
  have hts := S.2.2.2.2
  have hl : lv_has ls 1 [(0, .ref x)] := hl
  have hiX3 : ∀ w ∈ wsX30, w ∈ wsX3_undo := by decide +kernel
  have hf10 := hts (.fieldLink RX3 10 "StrikingWork" "now" "LStrikingWork$State;") (by decide +kernel)
  have hf16 := hts (.fieldLink RX3 16 "StrikingWork" "saved" "[LStrikingWork$State;") (by decide +kernel)
  have hf33 := hts (.fieldLink RX3 33 "StrikingWork" "savedCount" "I") (by decide +kernel)
  refine lv_aload_n hx hb dX3_undo_0 rfl (lv_at hl 0 rfl) ?_
  refine k_get (v := .int 5) S G 0 rfl rfl hiX3 4 (by decide) hf33 rfl dX3_undo_1 ?_
  refine lv_if_gt (tgt := 14) hx hb dX3_undo_4 (by decide) (fun c_1 => ?_) (fun c_1 => absurd c_1 (by decide))
  refine lv_aload_n hx hb dX3_undo_14 rfl (lv_at hl 0 rfl) ?_
  refine lv_dup hx hb dX3_undo_15 rfl ?_
  refine k_get (v := .int 5) S G 0 rfl rfl hiX3 4 (by decide) hf33 rfl dX3_undo_16 ?_
  refine lv_iconst (v := 1) hx hb dX3_undo_19 (by decide) ?_
  refine lv_isub hx hb dX3_undo_20 ?_
  refine lv_lit (v := 4) (by decide) ?_
  refine k_put (ws1 := ((x, .inr (3, [.ref (a 0), .ref sv, .ref tl, .ref er, .int 4])) :: (er, .inl (cI, 3, .inl z)) :: stW cI a r e ((tl, .inr (2, [.int n0, .int m0, .int p0, .int w0, .int s0, .int f0])) :: (sv, .inl (cS, 5, .inr (.inr (.inr (.inr (fun i => some (sa i 0))))))) :: stW cI (sa 0) (sr 0) (se 0) (stW cI (sa 1) (sr 1) (se 1) (stW cI (sa 2) (sr 2) (se 2) (stW cI (sa 3) (sr 3) (se 3) (stW cI (sa 4) (sr 4) (se 4) ([])))))))) S G 0 rfl rfl hiX3 tyX3 tyX3_ok nmX3 4 (by decide) hf33 rfl rfl rfl (Nat.le_of_ble_eq_true rfl) dX3_undo_21 rfl (fun H locs G => ?_)
  refine lv_aload_n hx hb dX3_undo_24 rfl (lv_at hl 0 rfl) ?_
  refine k_get (v := .ref (a 0)) S G 0 rfl rfl hiX3 0 (by decide) hf10 rfl dX3_undo_25 ?_
  refine lv_aload_n hx hb dX3_undo_28 rfl (lv_at hl 0 rfl) ?_
  refine k_get (v := .ref sv) S G 0 rfl rfl hiX3 1 (by decide) hf16 rfl dX3_undo_29 ?_
  refine lv_aload_n hx hb dX3_undo_32 rfl (lv_at hl 0 rfl) ?_
  refine k_get (v := .int 4) S G 0 rfl rfl hiX3 4 (by decide) hf33 rfl dX3_undo_33 ?_
  refine k_aald (x := ((sa 4) 0)) S G 10 1 rfl rfl (by unfold vp_in; decide) rfl dX3_undo_36 ?_
  refine k_callV (n := 1) (As := [.ref ((sa 4) 0)]) (rest := []) (st1 := []) (ws1 := ((x, .inr (3, [.ref (a 0), .ref sv, .ref tl, .ref er, .int 4])) :: (er, .inl (cI, 3, .inl z)) :: stW cI a (sr 4) (se 4) ((tl, .inr (2, [.int n0, .int m0, .int p0, .int w0, .int s0, .int f0])) :: (sv, .inl (cS, 5, .inr (.inr (.inr (.inr (fun i => some (sa i 0))))))) :: stW cI (sa 0) (sr 0) (se 0) (stW cI (sa 1) (sr 1) (se 1) (stW cI (sa 2) (sr 2) (se 2) (stW cI (sa 3) (sr 3) (se 3) (stW cI (sa 4) (sr 4) (se 4) ([])))))))) S G (c_X0_copyFrom l D cI cS a r e (sa 4) (sr 4) (se 4)) gX3_undo_X0_copyFrom rfl (by decide +kernel) ⟨⟨rfl, rfl⟩, Nat.le_of_ble_eq_true rfl, Nat.le_of_ble_eq_true rfl⟩ [2, 3, 4, 5, 6, 7, 8, 39, 40, 41, 42, 43, 44, 45] (by decide) rfl [(a 0), (a 1), (a 2), (a 3), (a 4), (a 5), (a 6), ((sa 4) 0), ((sa 4) 1), ((sa 4) 2), ((sa 4) 3), ((sa 4) 4), ((sa 4) 5), ((sa 4) 6)] rfl rfl 2 rfl rfl rfl hl.1 rfl (Nat.le_of_ble_eq_true rfl) ⟨Nat.zero_le _, Nat.zero_le _⟩ dX3_undo_37 rfl rfl (fun H locs G => ?_)
  refine lv_aload_n hx hb dX3_undo_40 rfl (lv_at hl 0 rfl) ?_
  refine k_get (v := .int 4) S G 0 rfl rfl hiX3 4 (by decide) hf33 rfl dX3_undo_41 ?_
  exact k_iret S G hr hlk dX3_undo_44 rfl rfl
def uRet (sc : Int32) : Int32 := if sc = 0 then (-4) else sc - 1
def uSc (sc : Int32) : Int32 := if sc = 0 then 0 else sc - 1
def uZ (sc : Int32) (z : Nat → Int32) : Nat → Int32 := if sc = 0 then upd z 2 (z 2 + 1) else z
def uR (sc : Int32) (sr : Nat → Nat → Int32) (r : Nat → Int32) : Nat → Int32 := if sc = 0 then r else sr (sc - 1).toNatClampNeg
def uE (sc : Int32) (se : Nat → Nat → Nat → Int32) (e : Nat → Nat → Int32) : Nat → Nat → Int32 := if sc = 0 then e else se (sc - 1).toNatClampNeg
set_option maxHeartbeats 4000000 in
set_option maxRecDepth 100000 in
theorem c_X3_undo (l : Launch) (D : va_G) (cI cS : ClassId) (x : Nat) (sv : Nat) (tl : Nat) (er : Nat) (sc : Int32) (z : Nat → Int32) (a : Nat → Nat) (r : Nat → Int32) (e : Nat → Nat → Int32) (n0 : Int32) (m0 : Int32) (p0 : Int32) (w0 : Int32) (s0 : Int32) (f0 : Int32) (sa : Nat → Nat → Nat) (sr : Nat → Nat → Int32) (se : Nat → Nat → Nat → Int32) (hsc : scOk sc) : Ct l yX3_undo wsX3_undo ({ frames := 2, cells := 0, slots := 0, locals := 43 }) D (tyL cI cS) [.ref x] ((x, .inr (3, [.ref (a 0), .ref sv, .ref tl, .ref er, .int sc])) :: (er, .inl (cI, 3, .inl z)) :: stW cI a r e ((tl, .inr (2, [.int n0, .int m0, .int p0, .int w0, .int s0, .int f0])) :: (sv, .inl (cS, 5, .inr (.inr (.inr (.inr (fun i => some (sa i 0))))))) :: svW cI sa sr se ([]))) (some (.int (uRet sc))) ((x, .inr (3, [.ref (a 0), .ref sv, .ref tl, .ref er, .int (uSc sc)])) :: (er, .inl (cI, 3, .inl (uZ sc z))) :: stW cI a (uR sc sr r) (uE sc se e) ((tl, .inr (2, [.int n0, .int m0, .int p0, .int w0, .int s0, .int f0])) :: (sv, .inl (cS, 5, .inr (.inr (.inr (.inr (fun i => some (sa i 0))))))) :: svW cI sa sr se ([]))) := by
  rcases scOk_cases hsc with rfl | rfl | rfl | rfl | rfl | rfl
  · exact c_X3_undo_0 l D cI cS x sv tl er z a r e n0 m0 p0 w0 s0 f0 sa sr se
  · exact c_X3_undo_1 l D cI cS x sv tl er z a r e n0 m0 p0 w0 s0 f0 sa sr se
  · exact c_X3_undo_2 l D cI cS x sv tl er z a r e n0 m0 p0 w0 s0 f0 sa sr se
  · exact c_X3_undo_3 l D cI cS x sv tl er z a r e n0 m0 p0 w0 s0 f0 sa sr se
  · exact c_X3_undo_4 l D cI cS x sv tl er z a r e n0 m0 p0 w0 s0 f0 sa sr se
  · exact c_X3_undo_5 l D cI cS x sv tl er z a r e n0 m0 p0 w0 s0 f0 sa sr se
