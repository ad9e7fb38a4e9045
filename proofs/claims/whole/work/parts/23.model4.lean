theorem X4_isTrain_else {q : Int32} (h0 : ¬ q = 0) (h1 : ¬ q = 1) : s_X4_isTrain q = 0 := by
  have e0 : q.toInt ≠ 0 := fun h => h0 (Int32.toInt_inj.mp h)
  have e1 : q.toInt ≠ 1 := fun h => h1 (Int32.toInt_inj.mp h)
  unfold s_X4_isTrain s_X4_in
  by_cases h : q < 0
  · rw [if_pos h]
  · rw [if_neg h]
    by_cases h2 : 1 < q
    · rw [if_pos h2]
    · rw [Int32.lt_iff_toInt_lt] at h h2
      have a : (0 : Int32).toInt = 0 := by decide
      have b : (1 : Int32).toInt = 1 := by decide
      rw [a] at h
      rw [b] at h2
      omega
def s_X4_setMechanism (sn : Int32) (f : Nat → Int32) (pf : Nat → Int32) (z : Nat → Int32) (tn : Int32) (q : Int32) : Int32 × Int32 × (Nat → Int32) × (Nat → Int32) × (Nat → Int32) := (if tn = 0 then (if (s_X4_in q 0 2) = 0 then ((-2), sn, f, pf, (upd z 0 ((z 0) + 1))) else ((f 4), (sSc sn), (upd f 4 q), (mSp sn pf f), z)) else (if tn = 1 then (if (s_X4_in q 0 2) = 0 then ((-2), sn, f, pf, (upd z 0 ((z 0) + 1))) else ((f 9), (sSc sn), (upd f 9 q), (mSp sn pf f), z)) else ((-2), sn, f, pf, (upd z 0 ((z 0) + 1)))))
set_option maxHeartbeats 4000000 in
set_option maxRecDepth 100000 in
theorem c_X4_setMechanism (l : Launch) (D : va_G) (cI cS : ClassId) (y : Nat) (nw : Nat) (ad : Nat) (pa : Nat) (eA : Nat) (sn : Int32) (hs : Int64) (f : Nat → Int32) (g : Nat → Int32) (pf : Nat → Int32) (z : Nat → Int32) (tn : Int32) (q : Int32) (hsn : scOk sn) : Ct l yX4_setMechanism wsX4_setMechanism ({ frames := 2, cells := 0, slots := 0, locals := 71 }) D (tyL cI cS) [.ref y, .int tn, .int q] [(y, .inr (4, [.ref nw, .ref ad, .ref pa, .int sn, .ref eA, .long hs])), (nw, .inl (cI, 39, .inl f)), (ad, .inl (cI, 39, .inl g)), (pa, .inl (cI, 195, .inl pf)), (eA, .inl (cI, 3, .inl z))] (some (.int ((s_X4_setMechanism sn f pf z tn q).1))) [(y, .inr (4, [.ref nw, .ref ad, .ref pa, .int ((s_X4_setMechanism sn f pf z tn q).2.1), .ref eA, .long hs])), (nw, .inl (cI, 39, .inl ((s_X4_setMechanism sn f pf z tn q).2.2.1))), (ad, .inl (cI, 39, .inl g)), (pa, .inl (cI, 195, .inl ((s_X4_setMechanism sn f pf z tn q).2.2.2.1))), (eA, .inl (cI, 3, .inl ((s_X4_setMechanism sn f pf z tn q).2.2.2.2)))] := by
  refine Ct.of (cc := cX4_setMechanism) (maxL := 4) (ret := (some .int)) (by decide) rfl (Nat.le_of_ble_eq_true rfl) ?_
  intro p ev s m args below meth c A ls S hr hlk G hl
  have hx := S.1
  have hb := S.2.1
  have hown : s.vm.findClass RX4 = some m.cls := S.2.2.2.1
  have hts := S.2.2.2.2
  have hl : lv_has ls 4 [(0, .ref y), (1, .int tn), (2, .int q)] := hl
  have hiX4 : ∀ w ∈ wsX40, w ∈ wsX4_setMechanism := by decide +kernel
  have hf7 := hts (.fieldLink RX4 7 "StrikingWorkModel" "now" "[I") (by decide +kernel)
  by_cases c_1 : tn = 0
  · skip
    have hl : lv_has ls 4 [(0, .ref y), (1, .int 0), (2, .int q)] := by rw [c_1] at hl; exact hl
    refine lv_iload_n hx hb dX4_setMechanism_0 rfl (lv_at hl 1 rfl) ?_
    refine k_callS (n := 1) (As := [.int 0]) (rest := []) (st1 := [.int 1]) (ws1 := [(y, .inr (4, [.ref nw, .ref ad, .ref pa, .int sn, .ref eA, .long hs])), (nw, .inl (cI, 39, .inl f)), (ad, .inl (cI, 39, .inl g)), (pa, .inl (cI, 195, .inl pf)), (eA, .inl (cI, 3, .inl z))]) S G (c_X4_isTrain l D cI cS 0) gX4_setMechanism_X4_isTrain rfl (by decide +kernel) ⟨⟨rfl, rfl⟩, Nat.le_of_ble_eq_true rfl, Nat.le_of_ble_eq_true rfl⟩ [] (by decide) rfl [] rfl rfl rfl hl.1 rfl (Nat.le_of_ble_eq_true rfl) ⟨Nat.zero_le _, Nat.zero_le _⟩ dX4_setMechanism_1 (congrArg (fun z => Value.int z :: []) (by decide : (s_X4_isTrain 0) = 1)) rfl (fun H locs G => ?_)
    refine lv_if_eq (tgt := 16) hx hb dX4_setMechanism_4 (by decide) (fun c_2 => absurd c_2 (by decide)) (fun c_2 => ?_)
    refine lv_iload_n hx hb dX4_setMechanism_7 rfl (lv_at hl 2 rfl) ?_
    refine lv_iconst (v := 0) hx hb dX4_setMechanism_8 (by decide) ?_
    refine lv_iconst (v := 2) hx hb dX4_setMechanism_9 (by decide) ?_
    refine k_callS (n := 3) (As := [.int q, .int 0, .int 2]) (rest := []) (st1 := [.int (s_X4_in q 0 2)]) (ws1 := [(y, .inr (4, [.ref nw, .ref ad, .ref pa, .int sn, .ref eA, .long hs])), (nw, .inl (cI, 39, .inl f)), (ad, .inl (cI, 39, .inl g)), (pa, .inl (cI, 195, .inl pf)), (eA, .inl (cI, 3, .inl z))]) S G (c_X4_in l D cI cS q 0 2) gX4_setMechanism_X4_in rfl (by decide +kernel) ⟨⟨rfl, rfl⟩, Nat.le_of_ble_eq_true rfl, Nat.le_of_ble_eq_true rfl⟩ [] (by decide) rfl [] rfl rfl rfl hl.1 rfl (Nat.le_of_ble_eq_true rfl) ⟨Nat.zero_le _, Nat.zero_le _⟩ dX4_setMechanism_10 rfl rfl (fun H locs G => ?_)
    refine lv_if_ne (tgt := 23) hx hb dX4_setMechanism_13 (by decide) (fun c_3 => ?_) (fun c_3 => ?_)
    · skip
      refine lv_aload_n hx hb dX4_setMechanism_23 rfl (lv_at hl 0 rfl) ?_
      refine k_callV (n := 0) (As := []) (rest := []) (st1 := []) (ws1 := [(y, .inr (4, [.ref nw, .ref ad, .ref pa, .int (sSc sn), .ref eA, .long hs])), (nw, .inl (cI, 39, .inl f)), (ad, .inl (cI, 39, .inl g)), (pa, .inl (cI, 195, .inl (mSp sn pf f))), (eA, .inl (cI, 3, .inl z))]) S G (c_X4_save l D cI cS y nw ad pa eA sn hs f g pf z hsn) gX4_setMechanism_X4_save rfl (by decide +kernel) ⟨⟨rfl, rfl⟩, Nat.le_of_ble_eq_true rfl, Nat.le_of_ble_eq_true rfl⟩ [0, 1, 2, 3, 4] (by decide) rfl [y, nw, ad, pa, eA] rfl rfl 0 rfl rfl rfl hl.1 rfl (Nat.le_of_ble_eq_true rfl) ⟨Nat.zero_le _, Nat.zero_le _⟩ dX4_setMechanism_24 rfl rfl (fun H locs G => ?_)
      refine lv_aload_n hx hb dX4_setMechanism_27 rfl (lv_at hl 0 rfl) ?_
      refine k_get (v := .ref nw) S G 0 rfl rfl hiX4 0 (by decide) hf7 rfl dX4_setMechanism_28 ?_
      refine lv_iload_n hx hb dX4_setMechanism_31 rfl (lv_at hl 1 rfl) ?_
      refine lv_iconst (v := 0) hx hb dX4_setMechanism_32 (by decide) ?_
      refine k_callS (n := 2) (As := [.int 0, .int 0]) (rest := [.ref nw]) (st1 := [.int 4, .ref nw]) (ws1 := [(y, .inr (4, [.ref nw, .ref ad, .ref pa, .int (sSc sn), .ref eA, .long hs])), (nw, .inl (cI, 39, .inl f)), (ad, .inl (cI, 39, .inl g)), (pa, .inl (cI, 195, .inl (mSp sn pf f))), (eA, .inl (cI, 3, .inl z))]) S G (c_X4_at l D cI cS 0 0) gX4_setMechanism_X4_at rfl (by decide +kernel) ⟨⟨rfl, rfl⟩, Nat.le_of_ble_eq_true rfl, Nat.le_of_ble_eq_true rfl⟩ [] (by decide) rfl [] rfl rfl rfl hl.1 rfl (Nat.le_of_ble_eq_true rfl) ⟨Nat.zero_le _, Nat.zero_le _⟩ dX4_setMechanism_33 (congrArg (fun z => Value.int z :: [.ref nw]) (by decide : (s_X4_at 0 0) = 4)) rfl (fun H locs G => ?_)
      refine k_iald (x := (f 4)) S G 1 0 rfl rfl (by unfold vp_in; decide) rfl dX4_setMechanism_36 ?_
      refine lv_istore_n (lv' := [(3, .int (f 4)), (0, .ref y), (1, .int 0), (2, .int q)]) hx hb dX4_setMechanism_37 rfl hl (by decide) rfl (fun ls hl => ?_)
      refine lv_aload_n hx hb dX4_setMechanism_38 rfl (lv_at hl 1 rfl) ?_
      refine k_get (v := .ref nw) S G 0 rfl rfl hiX4 0 (by decide) hf7 rfl dX4_setMechanism_39 ?_
      refine lv_iload_n hx hb dX4_setMechanism_42 rfl (lv_at hl 2 rfl) ?_
      refine lv_iconst (v := 0) hx hb dX4_setMechanism_43 (by decide) ?_
      refine k_callS (n := 2) (As := [.int 0, .int 0]) (rest := [.ref nw]) (st1 := [.int 4, .ref nw]) (ws1 := [(y, .inr (4, [.ref nw, .ref ad, .ref pa, .int (sSc sn), .ref eA, .long hs])), (nw, .inl (cI, 39, .inl f)), (ad, .inl (cI, 39, .inl g)), (pa, .inl (cI, 195, .inl (mSp sn pf f))), (eA, .inl (cI, 3, .inl z))]) S G (c_X4_at l D cI cS 0 0) gX4_setMechanism_X4_at rfl (by decide +kernel) ⟨⟨rfl, rfl⟩, Nat.le_of_ble_eq_true rfl, Nat.le_of_ble_eq_true rfl⟩ [] (by decide) rfl [] rfl rfl rfl hl.1 rfl (Nat.le_of_ble_eq_true rfl) ⟨Nat.zero_le _, Nat.zero_le _⟩ dX4_setMechanism_44 (congrArg (fun z => Value.int z :: [.ref nw]) (by decide : (s_X4_at 0 0) = 4)) rfl (fun H locs G => ?_)
      refine lv_iload_n hx hb dX4_setMechanism_47 rfl (lv_at hl 3 rfl) ?_
      refine k_iast (ws1 := [(y, .inr (4, [.ref nw, .ref ad, .ref pa, .int (sSc sn), .ref eA, .long hs])), (nw, .inl (cI, 39, .inl (upd f 4 q))), (ad, .inl (cI, 39, .inl g)), (pa, .inl (cI, 195, .inl (mSp sn pf f))), (eA, .inl (cI, 3, .inl z))]) S G 1 0 rfl rfl (by unfold vp_in; decide) dX4_setMechanism_48 rfl (fun H locs G => ?_)
      refine lv_iload_n hx hb dX4_setMechanism_49 rfl (lv_at hl 0 rfl) ?_
      have es : (s_X4_setMechanism sn f pf z tn q) = ((f 4), (sSc sn), (upd f 4 q), (mSp sn pf f), z) := by rw [s_X4_setMechanism, if_pos c_1, if_neg c_3]
      exact k_iret S G hr hlk dX4_setMechanism_50 (by first | (rw [es]; done) | (rw [es]; rfl) | (simp only [es]; done) | (simp only [es]; rfl)) (by first | (rw [es]; done) | (rw [es]; rfl) | (simp only [es]; done) | (simp only [es]; rfl))
    · skip
      refine lv_aload_n hx hb dX4_setMechanism_16 rfl (lv_at hl 0 rfl) ?_
      refine lv_bipush (v := (-2)) hx hb dX4_setMechanism_17 (by decide) ?_
      refine k_callV (n := 1) (As := [.int (-2)]) (rest := []) (st1 := [.int (-2)]) (ws1 := [(y, .inr (4, [.ref nw, .ref ad, .ref pa, .int sn, .ref eA, .long hs])), (nw, .inl (cI, 39, .inl f)), (ad, .inl (cI, 39, .inl g)), (pa, .inl (cI, 195, .inl pf)), (eA, .inl (cI, 3, .inl (upd z 0 ((z 0) + 1))))]) S G (c_X4_error_2 l D cI cS y nw ad pa eA sn hs f g pf z) gX4_setMechanism_X4_error rfl (by decide +kernel) ⟨⟨rfl, rfl⟩, Nat.le_of_ble_eq_true rfl, Nat.le_of_ble_eq_true rfl⟩ [0, 1, 2, 3, 4] (by decide) rfl [y, nw, ad, pa, eA] rfl rfl 0 rfl rfl rfl hl.1 rfl (Nat.le_of_ble_eq_true rfl) ⟨Nat.zero_le _, Nat.zero_le _⟩ dX4_setMechanism_19 rfl rfl (fun H locs G => ?_)
      have es : (s_X4_setMechanism sn f pf z tn q) = ((-2), sn, f, pf, (upd z 0 ((z 0) + 1))) := by rw [s_X4_setMechanism, if_pos c_1, if_pos c_3]
      exact k_iret S G hr hlk dX4_setMechanism_22 (by first | (rw [es]; done) | (rw [es]; rfl) | (simp only [es]; done) | (simp only [es]; rfl)) (by first | (rw [es]; done) | (rw [es]; rfl) | (simp only [es]; done) | (simp only [es]; rfl))
  · skip
    by_cases c_4 : tn = 1
    · skip
      have hl : lv_has ls 4 [(0, .ref y), (1, .int 1), (2, .int q)] := by rw [c_4] at hl; exact hl
      refine lv_iload_n hx hb dX4_setMechanism_0 rfl (lv_at hl 1 rfl) ?_
      refine k_callS (n := 1) (As := [.int 1]) (rest := []) (st1 := [.int 1]) (ws1 := [(y, .inr (4, [.ref nw, .ref ad, .ref pa, .int sn, .ref eA, .long hs])), (nw, .inl (cI, 39, .inl f)), (ad, .inl (cI, 39, .inl g)), (pa, .inl (cI, 195, .inl pf)), (eA, .inl (cI, 3, .inl z))]) S G (c_X4_isTrain l D cI cS 1) gX4_setMechanism_X4_isTrain rfl (by decide +kernel) ⟨⟨rfl, rfl⟩, Nat.le_of_ble_eq_true rfl, Nat.le_of_ble_eq_true rfl⟩ [] (by decide) rfl [] rfl rfl rfl hl.1 rfl (Nat.le_of_ble_eq_true rfl) ⟨Nat.zero_le _, Nat.zero_le _⟩ dX4_setMechanism_1 (congrArg (fun z => Value.int z :: []) (by decide : (s_X4_isTrain 1) = 1)) rfl (fun H locs G => ?_)
      refine lv_if_eq (tgt := 16) hx hb dX4_setMechanism_4 (by decide) (fun c_5 => absurd c_5 (by decide)) (fun c_5 => ?_)
      refine lv_iload_n hx hb dX4_setMechanism_7 rfl (lv_at hl 2 rfl) ?_
      refine lv_iconst (v := 0) hx hb dX4_setMechanism_8 (by decide) ?_
      refine lv_iconst (v := 2) hx hb dX4_setMechanism_9 (by decide) ?_
      refine k_callS (n := 3) (As := [.int q, .int 0, .int 2]) (rest := []) (st1 := [.int (s_X4_in q 0 2)]) (ws1 := [(y, .inr (4, [.ref nw, .ref ad, .ref pa, .int sn, .ref eA, .long hs])), (nw, .inl (cI, 39, .inl f)), (ad, .inl (cI, 39, .inl g)), (pa, .inl (cI, 195, .inl pf)), (eA, .inl (cI, 3, .inl z))]) S G (c_X4_in l D cI cS q 0 2) gX4_setMechanism_X4_in rfl (by decide +kernel) ⟨⟨rfl, rfl⟩, Nat.le_of_ble_eq_true rfl, Nat.le_of_ble_eq_true rfl⟩ [] (by decide) rfl [] rfl rfl rfl hl.1 rfl (Nat.le_of_ble_eq_true rfl) ⟨Nat.zero_le _, Nat.zero_le _⟩ dX4_setMechanism_10 rfl rfl (fun H locs G => ?_)
      refine lv_if_ne (tgt := 23) hx hb dX4_setMechanism_13 (by decide) (fun c_6 => ?_) (fun c_6 => ?_)
      · skip
        refine lv_aload_n hx hb dX4_setMechanism_23 rfl (lv_at hl 0 rfl) ?_
        refine k_callV (n := 0) (As := []) (rest := []) (st1 := []) (ws1 := [(y, .inr (4, [.ref nw, .ref ad, .ref pa, .int (sSc sn), .ref eA, .long hs])), (nw, .inl (cI, 39, .inl f)), (ad, .inl (cI, 39, .inl g)), (pa, .inl (cI, 195, .inl (mSp sn pf f))), (eA, .inl (cI, 3, .inl z))]) S G (c_X4_save l D cI cS y nw ad pa eA sn hs f g pf z hsn) gX4_setMechanism_X4_save rfl (by decide +kernel) ⟨⟨rfl, rfl⟩, Nat.le_of_ble_eq_true rfl, Nat.le_of_ble_eq_true rfl⟩ [0, 1, 2, 3, 4] (by decide) rfl [y, nw, ad, pa, eA] rfl rfl 0 rfl rfl rfl hl.1 rfl (Nat.le_of_ble_eq_true rfl) ⟨Nat.zero_le _, Nat.zero_le _⟩ dX4_setMechanism_24 rfl rfl (fun H locs G => ?_)
        refine lv_aload_n hx hb dX4_setMechanism_27 rfl (lv_at hl 0 rfl) ?_
        refine k_get (v := .ref nw) S G 0 rfl rfl hiX4 0 (by decide) hf7 rfl dX4_setMechanism_28 ?_
        refine lv_iload_n hx hb dX4_setMechanism_31 rfl (lv_at hl 1 rfl) ?_
        refine lv_iconst (v := 0) hx hb dX4_setMechanism_32 (by decide) ?_
        refine k_callS (n := 2) (As := [.int 1, .int 0]) (rest := [.ref nw]) (st1 := [.int 9, .ref nw]) (ws1 := [(y, .inr (4, [.ref nw, .ref ad, .ref pa, .int (sSc sn), .ref eA, .long hs])), (nw, .inl (cI, 39, .inl f)), (ad, .inl (cI, 39, .inl g)), (pa, .inl (cI, 195, .inl (mSp sn pf f))), (eA, .inl (cI, 3, .inl z))]) S G (c_X4_at l D cI cS 1 0) gX4_setMechanism_X4_at rfl (by decide +kernel) ⟨⟨rfl, rfl⟩, Nat.le_of_ble_eq_true rfl, Nat.le_of_ble_eq_true rfl⟩ [] (by decide) rfl [] rfl rfl rfl hl.1 rfl (Nat.le_of_ble_eq_true rfl) ⟨Nat.zero_le _, Nat.zero_le _⟩ dX4_setMechanism_33 (congrArg (fun z => Value.int z :: [.ref nw]) (by decide : (s_X4_at 1 0) = 9)) rfl (fun H locs G => ?_)
        refine k_iald (x := (f 9)) S G 1 0 rfl rfl (by unfold vp_in; decide) rfl dX4_setMechanism_36 ?_
        refine lv_istore_n (lv' := [(3, .int (f 9)), (0, .ref y), (1, .int 1), (2, .int q)]) hx hb dX4_setMechanism_37 rfl hl (by decide) rfl (fun ls hl => ?_)
        refine lv_aload_n hx hb dX4_setMechanism_38 rfl (lv_at hl 1 rfl) ?_
        refine k_get (v := .ref nw) S G 0 rfl rfl hiX4 0 (by decide) hf7 rfl dX4_setMechanism_39 ?_
        refine lv_iload_n hx hb dX4_setMechanism_42 rfl (lv_at hl 2 rfl) ?_
        refine lv_iconst (v := 0) hx hb dX4_setMechanism_43 (by decide) ?_
        refine k_callS (n := 2) (As := [.int 1, .int 0]) (rest := [.ref nw]) (st1 := [.int 9, .ref nw]) (ws1 := [(y, .inr (4, [.ref nw, .ref ad, .ref pa, .int (sSc sn), .ref eA, .long hs])), (nw, .inl (cI, 39, .inl f)), (ad, .inl (cI, 39, .inl g)), (pa, .inl (cI, 195, .inl (mSp sn pf f))), (eA, .inl (cI, 3, .inl z))]) S G (c_X4_at l D cI cS 1 0) gX4_setMechanism_X4_at rfl (by decide +kernel) ⟨⟨rfl, rfl⟩, Nat.le_of_ble_eq_true rfl, Nat.le_of_ble_eq_true rfl⟩ [] (by decide) rfl [] rfl rfl rfl hl.1 rfl (Nat.le_of_ble_eq_true rfl) ⟨Nat.zero_le _, Nat.zero_le _⟩ dX4_setMechanism_44 (congrArg (fun z => Value.int z :: [.ref nw]) (by decide : (s_X4_at 1 0) = 9)) rfl (fun H locs G => ?_)
        refine lv_iload_n hx hb dX4_setMechanism_47 rfl (lv_at hl 3 rfl) ?_
        refine k_iast (ws1 := [(y, .inr (4, [.ref nw, .ref ad, .ref pa, .int (sSc sn), .ref eA, .long hs])), (nw, .inl (cI, 39, .inl (upd f 9 q))), (ad, .inl (cI, 39, .inl g)), (pa, .inl (cI, 195, .inl (mSp sn pf f))), (eA, .inl (cI, 3, .inl z))]) S G 1 0 rfl rfl (by unfold vp_in; decide) dX4_setMechanism_48 rfl (fun H locs G => ?_)
        refine lv_iload_n hx hb dX4_setMechanism_49 rfl (lv_at hl 0 rfl) ?_
        have es : (s_X4_setMechanism sn f pf z tn q) = ((f 9), (sSc sn), (upd f 9 q), (mSp sn pf f), z) := by rw [s_X4_setMechanism, if_neg c_1, if_pos c_4, if_neg c_6]
        exact k_iret S G hr hlk dX4_setMechanism_50 (by first | (rw [es]; done) | (rw [es]; rfl) | (simp only [es]; done) | (simp only [es]; rfl)) (by first | (rw [es]; done) | (rw [es]; rfl) | (simp only [es]; done) | (simp only [es]; rfl))
      · skip
        refine lv_aload_n hx hb dX4_setMechanism_16 rfl (lv_at hl 0 rfl) ?_
        refine lv_bipush (v := (-2)) hx hb dX4_setMechanism_17 (by decide) ?_
        refine k_callV (n := 1) (As := [.int (-2)]) (rest := []) (st1 := [.int (-2)]) (ws1 := [(y, .inr (4, [.ref nw, .ref ad, .ref pa, .int sn, .ref eA, .long hs])), (nw, .inl (cI, 39, .inl f)), (ad, .inl (cI, 39, .inl g)), (pa, .inl (cI, 195, .inl pf)), (eA, .inl (cI, 3, .inl (upd z 0 ((z 0) + 1))))]) S G (c_X4_error_2 l D cI cS y nw ad pa eA sn hs f g pf z) gX4_setMechanism_X4_error rfl (by decide +kernel) ⟨⟨rfl, rfl⟩, Nat.le_of_ble_eq_true rfl, Nat.le_of_ble_eq_true rfl⟩ [0, 1, 2, 3, 4] (by decide) rfl [y, nw, ad, pa, eA] rfl rfl 0 rfl rfl rfl hl.1 rfl (Nat.le_of_ble_eq_true rfl) ⟨Nat.zero_le _, Nat.zero_le _⟩ dX4_setMechanism_19 rfl rfl (fun H locs G => ?_)
        have es : (s_X4_setMechanism sn f pf z tn q) = ((-2), sn, f, pf, (upd z 0 ((z 0) + 1))) := by rw [s_X4_setMechanism, if_neg c_1, if_pos c_4, if_pos c_6]
        exact k_iret S G hr hlk dX4_setMechanism_22 (by first | (rw [es]; done) | (rw [es]; rfl) | (simp only [es]; done) | (simp only [es]; rfl)) (by first | (rw [es]; done) | (rw [es]; rfl) | (simp only [es]; done) | (simp only [es]; rfl))
    · skip
      refine lv_iload_n hx hb dX4_setMechanism_0 rfl (lv_at hl 1 rfl) ?_
      refine k_callS (n := 1) (As := [.int tn]) (rest := []) (st1 := [.int 0]) (ws1 := [(y, .inr (4, [.ref nw, .ref ad, .ref pa, .int sn, .ref eA, .long hs])), (nw, .inl (cI, 39, .inl f)), (ad, .inl (cI, 39, .inl g)), (pa, .inl (cI, 195, .inl pf)), (eA, .inl (cI, 3, .inl z))]) S G (c_X4_isTrain l D cI cS tn) gX4_setMechanism_X4_isTrain rfl (by decide +kernel) ⟨⟨rfl, rfl⟩, Nat.le_of_ble_eq_true rfl, Nat.le_of_ble_eq_true rfl⟩ [] (by decide) rfl [] rfl rfl rfl hl.1 rfl (Nat.le_of_ble_eq_true rfl) ⟨Nat.zero_le _, Nat.zero_le _⟩ dX4_setMechanism_1 (congrArg (fun z => Value.int z :: []) (X4_isTrain_else c_1 c_4)) rfl (fun H locs G => ?_)
      refine lv_if_eq (tgt := 16) hx hb dX4_setMechanism_4 (by decide) (fun c_7 => ?_) (fun c_7 => absurd c_7 (by decide))
      refine lv_aload_n hx hb dX4_setMechanism_16 rfl (lv_at hl 0 rfl) ?_
      refine lv_bipush (v := (-2)) hx hb dX4_setMechanism_17 (by decide) ?_
      refine k_callV (n := 1) (As := [.int (-2)]) (rest := []) (st1 := [.int (-2)]) (ws1 := [(y, .inr (4, [.ref nw, .ref ad, .ref pa, .int sn, .ref eA, .long hs])), (nw, .inl (cI, 39, .inl f)), (ad, .inl (cI, 39, .inl g)), (pa, .inl (cI, 195, .inl pf)), (eA, .inl (cI, 3, .inl (upd z 0 ((z 0) + 1))))]) S G (c_X4_error_2 l D cI cS y nw ad pa eA sn hs f g pf z) gX4_setMechanism_X4_error rfl (by decide +kernel) ⟨⟨rfl, rfl⟩, Nat.le_of_ble_eq_true rfl, Nat.le_of_ble_eq_true rfl⟩ [0, 1, 2, 3, 4] (by decide) rfl [y, nw, ad, pa, eA] rfl rfl 0 rfl rfl rfl hl.1 rfl (Nat.le_of_ble_eq_true rfl) ⟨Nat.zero_le _, Nat.zero_le _⟩ dX4_setMechanism_19 rfl rfl (fun H locs G => ?_)
      have es : (s_X4_setMechanism sn f pf z tn q) = ((-2), sn, f, pf, (upd z 0 ((z 0) + 1))) := by rw [s_X4_setMechanism, if_neg c_1, if_neg c_4]
      exact k_iret S G hr hlk dX4_setMechanism_22 (by first | (rw [es]; done) | (rw [es]; rfl) | (simp only [es]; done) | (simp only [es]; rfl)) (by first | (rw [es]; done) | (rw [es]; rfl) | (simp only [es]; done) | (simp only [es]; rfl))
def s_X4_setPosition (sn : Int32) (f : Nat → Int32) (pf : Nat → Int32) (z : Nat → Int32) (tn : Int32) (q : Int32) : Int32 × Int32 × (Nat → Int32) × (Nat → Int32) × (Nat → Int32) := (if tn = 0 then (if (s_X4_in q 1 12) = 0 then ((-2), sn, f, pf, (upd z 0 ((z 0) + 1))) else ((f 5), (sSc sn), (upd f 5 q), (mSp sn pf f), z)) else (if tn = 1 then (if (s_X4_in q 1 4) = 0 then ((-2), sn, f, pf, (upd z 0 ((z 0) + 1))) else ((f 10), (sSc sn), (upd f 10 q), (mSp sn pf f), z)) else ((-2), sn, f, pf, (upd z 0 ((z 0) + 1)))))
set_option maxHeartbeats 4000000 in
set_option maxRecDepth 100000 in
theorem c_X4_setPosition (l : Launch) (D : va_G) (cI cS : ClassId) (y : Nat) (nw : Nat) (ad : Nat) (pa : Nat) (eA : Nat) (sn : Int32) (hs : Int64) (f : Nat → Int32) (g : Nat → Int32) (pf : Nat → Int32) (z : Nat → Int32) (tn : Int32) (q : Int32) (hsn : scOk sn) : Ct l yX4_setPosition wsX4_setPosition ({ frames := 2, cells := 0, slots := 0, locals := 71 }) D (tyL cI cS) [.ref y, .int tn, .int q] [(y, .inr (4, [.ref nw, .ref ad, .ref pa, .int sn, .ref eA, .long hs])), (nw, .inl (cI, 39, .inl f)), (ad, .inl (cI, 39, .inl g)), (pa, .inl (cI, 195, .inl pf)), (eA, .inl (cI, 3, .inl z))] (some (.int ((s_X4_setPosition sn f pf z tn q).1))) [(y, .inr (4, [.ref nw, .ref ad, .ref pa, .int ((s_X4_setPosition sn f pf z tn q).2.1), .ref eA, .long hs])), (nw, .inl (cI, 39, .inl ((s_X4_setPosition sn f pf z tn q).2.2.1))), (ad, .inl (cI, 39, .inl g)), (pa, .inl (cI, 195, .inl ((s_X4_setPosition sn f pf z tn q).2.2.2.1))), (eA, .inl (cI, 3, .inl ((s_X4_setPosition sn f pf z tn q).2.2.2.2)))] := by
  refine Ct.of (cc := cX4_setPosition) (maxL := 4) (ret := (some .int)) (by decide) rfl (Nat.le_of_ble_eq_true rfl) ?_
  intro p ev s m args below meth c A ls S hr hlk G hl
  have hx := S.1
  have hb := S.2.1
  have hown : s.vm.findClass RX4 = some m.cls := S.2.2.2.1
  have hts := S.2.2.2.2
  have hl : lv_has ls 4 [(0, .ref y), (1, .int tn), (2, .int q)] := hl
  have hiX4 : ∀ w ∈ wsX40, w ∈ wsX4_setPosition := by decide +kernel
  have hf7 := hts (.fieldLink RX4 7 "StrikingWorkModel" "now" "[I") (by decide +kernel)
  by_cases c_1 : tn = 0
  · skip
    have hl : lv_has ls 4 [(0, .ref y), (1, .int 0), (2, .int q)] := by rw [c_1] at hl; exact hl
    refine lv_iload_n hx hb dX4_setPosition_0 rfl (lv_at hl 1 rfl) ?_
    refine k_callS (n := 1) (As := [.int 0]) (rest := []) (st1 := [.int 1]) (ws1 := [(y, .inr (4, [.ref nw, .ref ad, .ref pa, .int sn, .ref eA, .long hs])), (nw, .inl (cI, 39, .inl f)), (ad, .inl (cI, 39, .inl g)), (pa, .inl (cI, 195, .inl pf)), (eA, .inl (cI, 3, .inl z))]) S G (c_X4_isTrain l D cI cS 0) gX4_setPosition_X4_isTrain rfl (by decide +kernel) ⟨⟨rfl, rfl⟩, Nat.le_of_ble_eq_true rfl, Nat.le_of_ble_eq_true rfl⟩ [] (by decide) rfl [] rfl rfl rfl hl.1 rfl (Nat.le_of_ble_eq_true rfl) ⟨Nat.zero_le _, Nat.zero_le _⟩ dX4_setPosition_1 (congrArg (fun z => Value.int z :: []) (by decide : (s_X4_isTrain 0) = 1)) rfl (fun H locs G => ?_)
    refine lv_if_eq (tgt := 19) hx hb dX4_setPosition_4 (by decide) (fun c_2 => absurd c_2 (by decide)) (fun c_2 => ?_)
    refine lv_iload_n hx hb dX4_setPosition_7 rfl (lv_at hl 2 rfl) ?_
    refine lv_iconst (v := 1) hx hb dX4_setPosition_8 (by decide) ?_
    refine lv_iload_n hx hb dX4_setPosition_9 rfl (lv_at hl 1 rfl) ?_
    refine k_callS (n := 1) (As := [.int 0]) (rest := [.int 1, .int q]) (st1 := [.int 12, .int 1, .int q]) (ws1 := [(y, .inr (4, [.ref nw, .ref ad, .ref pa, .int sn, .ref eA, .long hs])), (nw, .inl (cI, 39, .inl f)), (ad, .inl (cI, 39, .inl g)), (pa, .inl (cI, 195, .inl pf)), (eA, .inl (cI, 3, .inl z))]) S G (c_X4_positions l D cI cS 0) gX4_setPosition_X4_positions rfl (by decide +kernel) ⟨⟨rfl, rfl⟩, Nat.le_of_ble_eq_true rfl, Nat.le_of_ble_eq_true rfl⟩ [] (by decide) rfl [] rfl rfl rfl hl.1 rfl (Nat.le_of_ble_eq_true rfl) ⟨Nat.zero_le _, Nat.zero_le _⟩ dX4_setPosition_10 (congrArg (fun z => Value.int z :: [.int 1, .int q]) (by decide : (s_X4_positions 0) = 12)) rfl (fun H locs G => ?_)
    refine k_callS (n := 3) (As := [.int q, .int 1, .int 12]) (rest := []) (st1 := [.int (s_X4_in q 1 12)]) (ws1 := [(y, .inr (4, [.ref nw, .ref ad, .ref pa, .int sn, .ref eA, .long hs])), (nw, .inl (cI, 39, .inl f)), (ad, .inl (cI, 39, .inl g)), (pa, .inl (cI, 195, .inl pf)), (eA, .inl (cI, 3, .inl z))]) S G (c_X4_in l D cI cS q 1 12) gX4_setPosition_X4_in rfl (by decide +kernel) ⟨⟨rfl, rfl⟩, Nat.le_of_ble_eq_true rfl, Nat.le_of_ble_eq_true rfl⟩ [] (by decide) rfl [] rfl rfl rfl hl.1 rfl (Nat.le_of_ble_eq_true rfl) ⟨Nat.zero_le _, Nat.zero_le _⟩ dX4_setPosition_13 rfl rfl (fun H locs G => ?_)
    refine lv_if_ne (tgt := 26) hx hb dX4_setPosition_16 (by decide) (fun c_3 => ?_) (fun c_3 => ?_)
    · skip
      refine lv_aload_n hx hb dX4_setPosition_26 rfl (lv_at hl 0 rfl) ?_
      refine k_callV (n := 0) (As := []) (rest := []) (st1 := []) (ws1 := [(y, .inr (4, [.ref nw, .ref ad, .ref pa, .int (sSc sn), .ref eA, .long hs])), (nw, .inl (cI, 39, .inl f)), (ad, .inl (cI, 39, .inl g)), (pa, .inl (cI, 195, .inl (mSp sn pf f))), (eA, .inl (cI, 3, .inl z))]) S G (c_X4_save l D cI cS y nw ad pa eA sn hs f g pf z hsn) gX4_setPosition_X4_save rfl (by decide +kernel) ⟨⟨rfl, rfl⟩, Nat.le_of_ble_eq_true rfl, Nat.le_of_ble_eq_true rfl⟩ [0, 1, 2, 3, 4] (by decide) rfl [y, nw, ad, pa, eA] rfl rfl 0 rfl rfl rfl hl.1 rfl (Nat.le_of_ble_eq_true rfl) ⟨Nat.zero_le _, Nat.zero_le _⟩ dX4_setPosition_27 rfl rfl (fun H locs G => ?_)
      refine lv_aload_n hx hb dX4_setPosition_30 rfl (lv_at hl 0 rfl) ?_
      refine k_get (v := .ref nw) S G 0 rfl rfl hiX4 0 (by decide) hf7 rfl dX4_setPosition_31 ?_
      refine lv_iload_n hx hb dX4_setPosition_34 rfl (lv_at hl 1 rfl) ?_
      refine lv_iconst (v := 1) hx hb dX4_setPosition_35 (by decide) ?_
      refine k_callS (n := 2) (As := [.int 0, .int 1]) (rest := [.ref nw]) (st1 := [.int 5, .ref nw]) (ws1 := [(y, .inr (4, [.ref nw, .ref ad, .ref pa, .int (sSc sn), .ref eA, .long hs])), (nw, .inl (cI, 39, .inl f)), (ad, .inl (cI, 39, .inl g)), (pa, .inl (cI, 195, .inl (mSp sn pf f))), (eA, .inl (cI, 3, .inl z))]) S G (c_X4_at l D cI cS 0 1) gX4_setPosition_X4_at rfl (by decide +kernel) ⟨⟨rfl, rfl⟩, Nat.le_of_ble_eq_true rfl, Nat.le_of_ble_eq_true rfl⟩ [] (by decide) rfl [] rfl rfl rfl hl.1 rfl (Nat.le_of_ble_eq_true rfl) ⟨Nat.zero_le _, Nat.zero_le _⟩ dX4_setPosition_36 (congrArg (fun z => Value.int z :: [.ref nw]) (by decide : (s_X4_at 0 1) = 5)) rfl (fun H locs G => ?_)
      refine k_iald (x := (f 5)) S G 1 0 rfl rfl (by unfold vp_in; decide) rfl dX4_setPosition_39 ?_
      refine lv_istore_n (lv' := [(3, .int (f 5)), (0, .ref y), (1, .int 0), (2, .int q)]) hx hb dX4_setPosition_40 rfl hl (by decide) rfl (fun ls hl => ?_)
      refine lv_aload_n hx hb dX4_setPosition_41 rfl (lv_at hl 1 rfl) ?_
      refine k_get (v := .ref nw) S G 0 rfl rfl hiX4 0 (by decide) hf7 rfl dX4_setPosition_42 ?_
      refine lv_iload_n hx hb dX4_setPosition_45 rfl (lv_at hl 2 rfl) ?_
      refine lv_iconst (v := 1) hx hb dX4_setPosition_46 (by decide) ?_
      refine k_callS (n := 2) (As := [.int 0, .int 1]) (rest := [.ref nw]) (st1 := [.int 5, .ref nw]) (ws1 := [(y, .inr (4, [.ref nw, .ref ad, .ref pa, .int (sSc sn), .ref eA, .long hs])), (nw, .inl (cI, 39, .inl f)), (ad, .inl (cI, 39, .inl g)), (pa, .inl (cI, 195, .inl (mSp sn pf f))), (eA, .inl (cI, 3, .inl z))]) S G (c_X4_at l D cI cS 0 1) gX4_setPosition_X4_at rfl (by decide +kernel) ⟨⟨rfl, rfl⟩, Nat.le_of_ble_eq_true rfl, Nat.le_of_ble_eq_true rfl⟩ [] (by decide) rfl [] rfl rfl rfl hl.1 rfl (Nat.le_of_ble_eq_true rfl) ⟨Nat.zero_le _, Nat.zero_le _⟩ dX4_setPosition_47 (congrArg (fun z => Value.int z :: [.ref nw]) (by decide : (s_X4_at 0 1) = 5)) rfl (fun H locs G => ?_)
      refine lv_iload_n hx hb dX4_setPosition_50 rfl (lv_at hl 3 rfl) ?_
      refine k_iast (ws1 := [(y, .inr (4, [.ref nw, .ref ad, .ref pa, .int (sSc sn), .ref eA, .long hs])), (nw, .inl (cI, 39, .inl (upd f 5 q))), (ad, .inl (cI, 39, .inl g)), (pa, .inl (cI, 195, .inl (mSp sn pf f))), (eA, .inl (cI, 3, .inl z))]) S G 1 0 rfl rfl (by unfold vp_in; decide) dX4_setPosition_51 rfl (fun H locs G => ?_)
      refine lv_iload_n hx hb dX4_setPosition_52 rfl (lv_at hl 0 rfl) ?_
      have es : (s_X4_setPosition sn f pf z tn q) = ((f 5), (sSc sn), (upd f 5 q), (mSp sn pf f), z) := by rw [s_X4_setPosition, if_pos c_1, if_neg c_3]
      exact k_iret S G hr hlk dX4_setPosition_53 (by first | (rw [es]; done) | (rw [es]; rfl) | (simp only [es]; done) | (simp only [es]; rfl)) (by first | (rw [es]; done) | (rw [es]; rfl) | (simp only [es]; done) | (simp only [es]; rfl))
    · skip
      refine lv_aload_n hx hb dX4_setPosition_19 rfl (lv_at hl 0 rfl) ?_
      refine lv_bipush (v := (-2)) hx hb dX4_setPosition_20 (by decide) ?_
      refine k_callV (n := 1) (As := [.int (-2)]) (rest := []) (st1 := [.int (-2)]) (ws1 := [(y, .inr (4, [.ref nw, .ref ad, .ref pa, .int sn, .ref eA, .long hs])), (nw, .inl (cI, 39, .inl f)), (ad, .inl (cI, 39, .inl g)), (pa, .inl (cI, 195, .inl pf)), (eA, .inl (cI, 3, .inl (upd z 0 ((z 0) + 1))))]) S G (c_X4_error_2 l D cI cS y nw ad pa eA sn hs f g pf z) gX4_setPosition_X4_error rfl (by decide +kernel) ⟨⟨rfl, rfl⟩, Nat.le_of_ble_eq_true rfl, Nat.le_of_ble_eq_true rfl⟩ [0, 1, 2, 3, 4] (by decide) rfl [y, nw, ad, pa, eA] rfl rfl 0 rfl rfl rfl hl.1 rfl (Nat.le_of_ble_eq_true rfl) ⟨Nat.zero_le _, Nat.zero_le _⟩ dX4_setPosition_22 rfl rfl (fun H locs G => ?_)
      have es : (s_X4_setPosition sn f pf z tn q) = ((-2), sn, f, pf, (upd z 0 ((z 0) + 1))) := by rw [s_X4_setPosition, if_pos c_1, if_pos c_3]
      exact k_iret S G hr hlk dX4_setPosition_25 (by first | (rw [es]; done) | (rw [es]; rfl) | (simp only [es]; done) | (simp only [es]; rfl)) (by first | (rw [es]; done) | (rw [es]; rfl) | (simp only [es]; done) | (simp only [es]; rfl))
  · skip
    by_cases c_4 : tn = 1
    · skip
      have hl : lv_has ls 4 [(0, .ref y), (1, .int 1), (2, .int q)] := by rw [c_4] at hl; exact hl
      refine lv_iload_n hx hb dX4_setPosition_0 rfl (lv_at hl 1 rfl) ?_
      refine k_callS (n := 1) (As := [.int 1]) (rest := []) (st1 := [.int 1]) (ws1 := [(y, .inr (4, [.ref nw, .ref ad, .ref pa, .int sn, .ref eA, .long hs])), (nw, .inl (cI, 39, .inl f)), (ad, .inl (cI, 39, .inl g)), (pa, .inl (cI, 195, .inl pf)), (eA, .inl (cI, 3, .inl z))]) S G (c_X4_isTrain l D cI cS 1) gX4_setPosition_X4_isTrain rfl (by decide +kernel) ⟨⟨rfl, rfl⟩, Nat.le_of_ble_eq_true rfl, Nat.le_of_ble_eq_true rfl⟩ [] (by decide) rfl [] rfl rfl rfl hl.1 rfl (Nat.le_of_ble_eq_true rfl) ⟨Nat.zero_le _, Nat.zero_le _⟩ dX4_setPosition_1 (congrArg (fun z => Value.int z :: []) (by decide : (s_X4_isTrain 1) = 1)) rfl (fun H locs G => ?_)
      refine lv_if_eq (tgt := 19) hx hb dX4_setPosition_4 (by decide) (fun c_5 => absurd c_5 (by decide)) (fun c_5 => ?_)
      refine lv_iload_n hx hb dX4_setPosition_7 rfl (lv_at hl 2 rfl) ?_
      refine lv_iconst (v := 1) hx hb dX4_setPosition_8 (by decide) ?_
      refine lv_iload_n hx hb dX4_setPosition_9 rfl (lv_at hl 1 rfl) ?_
      refine k_callS (n := 1) (As := [.int 1]) (rest := [.int 1, .int q]) (st1 := [.int 4, .int 1, .int q]) (ws1 := [(y, .inr (4, [.ref nw, .ref ad, .ref pa, .int sn, .ref eA, .long hs])), (nw, .inl (cI, 39, .inl f)), (ad, .inl (cI, 39, .inl g)), (pa, .inl (cI, 195, .inl pf)), (eA, .inl (cI, 3, .inl z))]) S G (c_X4_positions l D cI cS 1) gX4_setPosition_X4_positions rfl (by decide +kernel) ⟨⟨rfl, rfl⟩, Nat.le_of_ble_eq_true rfl, Nat.le_of_ble_eq_true rfl⟩ [] (by decide) rfl [] rfl rfl rfl hl.1 rfl (Nat.le_of_ble_eq_true rfl) ⟨Nat.zero_le _, Nat.zero_le _⟩ dX4_setPosition_10 (congrArg (fun z => Value.int z :: [.int 1, .int q]) (by decide : (s_X4_positions 1) = 4)) rfl (fun H locs G => ?_)
      refine k_callS (n := 3) (As := [.int q, .int 1, .int 4]) (rest := []) (st1 := [.int (s_X4_in q 1 4)]) (ws1 := [(y, .inr (4, [.ref nw, .ref ad, .ref pa, .int sn, .ref eA, .long hs])), (nw, .inl (cI, 39, .inl f)), (ad, .inl (cI, 39, .inl g)), (pa, .inl (cI, 195, .inl pf)), (eA, .inl (cI, 3, .inl z))]) S G (c_X4_in l D cI cS q 1 4) gX4_setPosition_X4_in rfl (by decide +kernel) ⟨⟨rfl, rfl⟩, Nat.le_of_ble_eq_true rfl, Nat.le_of_ble_eq_true rfl⟩ [] (by decide) rfl [] rfl rfl rfl hl.1 rfl (Nat.le_of_ble_eq_true rfl) ⟨Nat.zero_le _, Nat.zero_le _⟩ dX4_setPosition_13 rfl rfl (fun H locs G => ?_)
      refine lv_if_ne (tgt := 26) hx hb dX4_setPosition_16 (by decide) (fun c_6 => ?_) (fun c_6 => ?_)
      · skip
        refine lv_aload_n hx hb dX4_setPosition_26 rfl (lv_at hl 0 rfl) ?_
        refine k_callV (n := 0) (As := []) (rest := []) (st1 := []) (ws1 := [(y, .inr (4, [.ref nw, .ref ad, .ref pa, .int (sSc sn), .ref eA, .long hs])), (nw, .inl (cI, 39, .inl f)), (ad, .inl (cI, 39, .inl g)), (pa, .inl (cI, 195, .inl (mSp sn pf f))), (eA, .inl (cI, 3, .inl z))]) S G (c_X4_save l D cI cS y nw ad pa eA sn hs f g pf z hsn) gX4_setPosition_X4_save rfl (by decide +kernel) ⟨⟨rfl, rfl⟩, Nat.le_of_ble_eq_true rfl, Nat.le_of_ble_eq_true rfl⟩ [0, 1, 2, 3, 4] (by decide) rfl [y, nw, ad, pa, eA] rfl rfl 0 rfl rfl rfl hl.1 rfl (Nat.le_of_ble_eq_true rfl) ⟨Nat.zero_le _, Nat.zero_le _⟩ dX4_setPosition_27 rfl rfl (fun H locs G => ?_)
        refine lv_aload_n hx hb dX4_setPosition_30 rfl (lv_at hl 0 rfl) ?_
        refine k_get (v := .ref nw) S G 0 rfl rfl hiX4 0 (by decide) hf7 rfl dX4_setPosition_31 ?_
        refine lv_iload_n hx hb dX4_setPosition_34 rfl (lv_at hl 1 rfl) ?_
        refine lv_iconst (v := 1) hx hb dX4_setPosition_35 (by decide) ?_
        refine k_callS (n := 2) (As := [.int 1, .int 1]) (rest := [.ref nw]) (st1 := [.int 10, .ref nw]) (ws1 := [(y, .inr (4, [.ref nw, .ref ad, .ref pa, .int (sSc sn), .ref eA, .long hs])), (nw, .inl (cI, 39, .inl f)), (ad, .inl (cI, 39, .inl g)), (pa, .inl (cI, 195, .inl (mSp sn pf f))), (eA, .inl (cI, 3, .inl z))]) S G (c_X4_at l D cI cS 1 1) gX4_setPosition_X4_at rfl (by decide +kernel) ⟨⟨rfl, rfl⟩, Nat.le_of_ble_eq_true rfl, Nat.le_of_ble_eq_true rfl⟩ [] (by decide) rfl [] rfl rfl rfl hl.1 rfl (Nat.le_of_ble_eq_true rfl) ⟨Nat.zero_le _, Nat.zero_le _⟩ dX4_setPosition_36 (congrArg (fun z => Value.int z :: [.ref nw]) (by decide : (s_X4_at 1 1) = 10)) rfl (fun H locs G => ?_)
        refine k_iald (x := (f 10)) S G 1 0 rfl rfl (by unfold vp_in; decide) rfl dX4_setPosition_39 ?_
        refine lv_istore_n (lv' := [(3, .int (f 10)), (0, .ref y), (1, .int 1), (2, .int q)]) hx hb dX4_setPosition_40 rfl hl (by decide) rfl (fun ls hl => ?_)
        refine lv_aload_n hx hb dX4_setPosition_41 rfl (lv_at hl 1 rfl) ?_
        refine k_get (v := .ref nw) S G 0 rfl rfl hiX4 0 (by decide) hf7 rfl dX4_setPosition_42 ?_
        refine lv_iload_n hx hb dX4_setPosition_45 rfl (lv_at hl 2 rfl) ?_
        refine lv_iconst (v := 1) hx hb dX4_setPosition_46 (by decide) ?_
        refine k_callS (n := 2) (As := [.int 1, .int 1]) (rest := [.ref nw]) (st1 := [.int 10, .ref nw]) (ws1 := [(y, .inr (4, [.ref nw, .ref ad, .ref pa, .int (sSc sn), .ref eA, .long hs])), (nw, .inl (cI, 39, .inl f)), (ad, .inl (cI, 39, .inl g)), (pa, .inl (cI, 195, .inl (mSp sn pf f))), (eA, .inl (cI, 3, .inl z))]) S G (c_X4_at l D cI cS 1 1) gX4_setPosition_X4_at rfl (by decide +kernel) ⟨⟨rfl, rfl⟩, Nat.le_of_ble_eq_true rfl, Nat.le_of_ble_eq_true rfl⟩ [] (by decide) rfl [] rfl rfl rfl hl.1 rfl (Nat.le_of_ble_eq_true rfl) ⟨Nat.zero_le _, Nat.zero_le _⟩ dX4_setPosition_47 (congrArg (fun z => Value.int z :: [.ref nw]) (by decide : (s_X4_at 1 1) = 10)) rfl (fun H locs G => ?_)
        refine lv_iload_n hx hb dX4_setPosition_50 rfl (lv_at hl 3 rfl) ?_
        refine k_iast (ws1 := [(y, .inr (4, [.ref nw, .ref ad, .ref pa, .int (sSc sn), .ref eA, .long hs])), (nw, .inl (cI, 39, .inl (upd f 10 q))), (ad, .inl (cI, 39, .inl g)), (pa, .inl (cI, 195, .inl (mSp sn pf f))), (eA, .inl (cI, 3, .inl z))]) S G 1 0 rfl rfl (by unfold vp_in; decide) dX4_setPosition_51 rfl (fun H locs G => ?_)
        refine lv_iload_n hx hb dX4_setPosition_52 rfl (lv_at hl 0 rfl) ?_
        have es : (s_X4_setPosition sn f pf z tn q) = ((f 10), (sSc sn), (upd f 10 q), (mSp sn pf f), z) := by rw [s_X4_setPosition, if_neg c_1, if_pos c_4, if_neg c_6]
        exact k_iret S G hr hlk dX4_setPosition_53 (by first | (rw [es]; done) | (rw [es]; rfl) | (simp only [es]; done) | (simp only [es]; rfl)) (by first | (rw [es]; done) | (rw [es]; rfl) | (simp only [es]; done) | (simp only [es]; rfl))
      · skip
        refine lv_aload_n hx hb dX4_setPosition_19 rfl (lv_at hl 0 rfl) ?_
        refine lv_bipush (v := (-2)) hx hb dX4_setPosition_20 (by decide) ?_
        refine k_callV (n := 1) (As := [.int (-2)]) (rest := []) (st1 := [.int (-2)]) (ws1 := [(y, .inr (4, [.ref nw, .ref ad, .ref pa, .int sn, .ref eA, .long hs])), (nw, .inl (cI, 39, .inl f)), (ad, .inl (cI, 39, .inl g)), (pa, .inl (cI, 195, .inl pf)), (eA, .inl (cI, 3, .inl (upd z 0 ((z 0) + 1))))]) S G (c_X4_error_2 l D cI cS y nw ad pa eA sn hs f g pf z) gX4_setPosition_X4_error rfl (by decide +kernel) ⟨⟨rfl, rfl⟩, Nat.le_of_ble_eq_true rfl, Nat.le_of_ble_eq_true rfl⟩ [0, 1, 2, 3, 4] (by decide) rfl [y, nw, ad, pa, eA] rfl rfl 0 rfl rfl rfl hl.1 rfl (Nat.le_of_ble_eq_true rfl) ⟨Nat.zero_le _, Nat.zero_le _⟩ dX4_setPosition_22 rfl rfl (fun H locs G => ?_)
        have es : (s_X4_setPosition sn f pf z tn q) = ((-2), sn, f, pf, (upd z 0 ((z 0) + 1))) := by rw [s_X4_setPosition, if_neg c_1, if_pos c_4, if_pos c_6]
        exact k_iret S G hr hlk dX4_setPosition_25 (by first | (rw [es]; done) | (rw [es]; rfl) | (simp only [es]; done) | (simp only [es]; rfl)) (by first | (rw [es]; done) | (rw [es]; rfl) | (simp only [es]; done) | (simp only [es]; rfl))
    · skip
      refine lv_iload_n hx hb dX4_setPosition_0 rfl (lv_at hl 1 rfl) ?_
      refine k_callS (n := 1) (As := [.int tn]) (rest := []) (st1 := [.int 0]) (ws1 := [(y, .inr (4, [.ref nw, .ref ad, .ref pa, .int sn, .ref eA, .long hs])), (nw, .inl (cI, 39, .inl f)), (ad, .inl (cI, 39, .inl g)), (pa, .inl (cI, 195, .inl pf)), (eA, .inl (cI, 3, .inl z))]) S G (c_X4_isTrain l D cI cS tn) gX4_setPosition_X4_isTrain rfl (by decide +kernel) ⟨⟨rfl, rfl⟩, Nat.le_of_ble_eq_true rfl, Nat.le_of_ble_eq_true rfl⟩ [] (by decide) rfl [] rfl rfl rfl hl.1 rfl (Nat.le_of_ble_eq_true rfl) ⟨Nat.zero_le _, Nat.zero_le _⟩ dX4_setPosition_1 (congrArg (fun z => Value.int z :: []) (X4_isTrain_else c_1 c_4)) rfl (fun H locs G => ?_)
      refine lv_if_eq (tgt := 19) hx hb dX4_setPosition_4 (by decide) (fun c_7 => ?_) (fun c_7 => absurd c_7 (by decide))
      refine lv_aload_n hx hb dX4_setPosition_19 rfl (lv_at hl 0 rfl) ?_
      refine lv_bipush (v := (-2)) hx hb dX4_setPosition_20 (by decide) ?_
      refine k_callV (n := 1) (As := [.int (-2)]) (rest := []) (st1 := [.int (-2)]) (ws1 := [(y, .inr (4, [.ref nw, .ref ad, .ref pa, .int sn, .ref eA, .long hs])), (nw, .inl (cI, 39, .inl f)), (ad, .inl (cI, 39, .inl g)), (pa, .inl (cI, 195, .inl pf)), (eA, .inl (cI, 3, .inl (upd z 0 ((z 0) + 1))))]) S G (c_X4_error_2 l D cI cS y nw ad pa eA sn hs f g pf z) gX4_setPosition_X4_error rfl (by decide +kernel) ⟨⟨rfl, rfl⟩, Nat.le_of_ble_eq_true rfl, Nat.le_of_ble_eq_true rfl⟩ [0, 1, 2, 3, 4] (by decide) rfl [y, nw, ad, pa, eA] rfl rfl 0 rfl rfl rfl hl.1 rfl (Nat.le_of_ble_eq_true rfl) ⟨Nat.zero_le _, Nat.zero_le _⟩ dX4_setPosition_22 rfl rfl (fun H locs G => ?_)
      have es : (s_X4_setPosition sn f pf z tn q) = ((-2), sn, f, pf, (upd z 0 ((z 0) + 1))) := by rw [s_X4_setPosition, if_neg c_1, if_neg c_4]
      exact k_iret S G hr hlk dX4_setPosition_25 (by first | (rw [es]; done) | (rw [es]; rfl) | (simp only [es]; done) | (simp only [es]; rfl)) (by first | (rw [es]; done) | (rw [es]; rfl) | (simp only [es]; done) | (simp only [es]; rfl))
def s_X4_setSilence (sn : Int32) (f : Nat → Int32) (pf : Nat → Int32) (z : Nat → Int32) (q : Int32) (bg : Int32) (en : Int32) : Int32 × Int32 × (Nat → Int32) × (Nat → Int32) × (Nat → Int32) := (if (s_X4_in q 0 2) = 0 then ((-2), sn, f, pf, (upd z 0 ((z 0) + 1))) else (if (s_X4_in bg 0 1439) = 0 then ((-2), sn, f, pf, (upd z 0 ((z 0) + 1))) else (if (s_X4_in en 0 1439) = 0 then ((-2), sn, f, pf, (upd z 0 ((z 0) + 1))) else ((f 1), (sSc sn), (upd (upd (upd f 1 q) 2 bg) 3 en), (mSp sn pf f), z))))
set_option maxHeartbeats 4000000 in
set_option maxRecDepth 100000 in
theorem c_X4_setSilence (l : Launch) (D : va_G) (cI cS : ClassId) (y : Nat) (nw : Nat) (ad : Nat) (pa : Nat) (eA : Nat) (sn : Int32) (hs : Int64) (f : Nat → Int32) (g : Nat → Int32) (pf : Nat → Int32) (z : Nat → Int32) (q : Int32) (bg : Int32) (en : Int32) (hsn : scOk sn) : Ct l yX4_setSilence wsX4_setSilence ({ frames := 2, cells := 0, slots := 0, locals := 71 }) D (tyL cI cS) [.ref y, .int q, .int bg, .int en] [(y, .inr (4, [.ref nw, .ref ad, .ref pa, .int sn, .ref eA, .long hs])), (nw, .inl (cI, 39, .inl f)), (ad, .inl (cI, 39, .inl g)), (pa, .inl (cI, 195, .inl pf)), (eA, .inl (cI, 3, .inl z))] (some (.int ((s_X4_setSilence sn f pf z q bg en).1))) [(y, .inr (4, [.ref nw, .ref ad, .ref pa, .int ((s_X4_setSilence sn f pf z q bg en).2.1), .ref eA, .long hs])), (nw, .inl (cI, 39, .inl ((s_X4_setSilence sn f pf z q bg en).2.2.1))), (ad, .inl (cI, 39, .inl g)), (pa, .inl (cI, 195, .inl ((s_X4_setSilence sn f pf z q bg en).2.2.2.1))), (eA, .inl (cI, 3, .inl ((s_X4_setSilence sn f pf z q bg en).2.2.2.2)))] := by
  refine Ct.of (cc := cX4_setSilence) (maxL := 5) (ret := (some .int)) (by decide) rfl (Nat.le_of_ble_eq_true rfl) ?_
  intro p ev s m args below meth c A ls S hr hlk G hl
  have hx := S.1
  have hb := S.2.1
  have hown : s.vm.findClass RX4 = some m.cls := S.2.2.2.1
  have hts := S.2.2.2.2
  have hl : lv_has ls 5 [(0, .ref y), (1, .int q), (2, .int bg), (3, .int en)] := hl
  have hiX4 : ∀ w ∈ wsX40, w ∈ wsX4_setSilence := by decide +kernel
  have hf7 := hts (.fieldLink RX4 7 "StrikingWorkModel" "now" "[I") (by decide +kernel)
  refine lv_iload_n hx hb dX4_setSilence_0 rfl (lv_at hl 1 rfl) ?_
  refine lv_iconst (v := 0) hx hb dX4_setSilence_1 (by decide) ?_
  refine lv_iconst (v := 2) hx hb dX4_setSilence_2 (by decide) ?_
  refine k_callS (n := 3) (As := [.int q, .int 0, .int 2]) (rest := []) (st1 := [.int (s_X4_in q 0 2)]) (ws1 := [(y, .inr (4, [.ref nw, .ref ad, .ref pa, .int sn, .ref eA, .long hs])), (nw, .inl (cI, 39, .inl f)), (ad, .inl (cI, 39, .inl g)), (pa, .inl (cI, 195, .inl pf)), (eA, .inl (cI, 3, .inl z))]) S G (c_X4_in l D cI cS q 0 2) gX4_setSilence_X4_in rfl (by decide +kernel) ⟨⟨rfl, rfl⟩, Nat.le_of_ble_eq_true rfl, Nat.le_of_ble_eq_true rfl⟩ [] (by decide) rfl [] rfl rfl rfl hl.1 rfl (Nat.le_of_ble_eq_true rfl) ⟨Nat.zero_le _, Nat.zero_le _⟩ dX4_setSilence_3 rfl rfl (fun H locs G => ?_)
  refine lv_if_eq (tgt := 31) hx hb dX4_setSilence_6 (by decide) (fun c_1 => ?_) (fun c_1 => ?_)
  · skip
    refine lv_aload_n hx hb dX4_setSilence_31 rfl (lv_at hl 0 rfl) ?_
    refine lv_bipush (v := (-2)) hx hb dX4_setSilence_32 (by decide) ?_
    refine k_callV (n := 1) (As := [.int (-2)]) (rest := []) (st1 := [.int (-2)]) (ws1 := [(y, .inr (4, [.ref nw, .ref ad, .ref pa, .int sn, .ref eA, .long hs])), (nw, .inl (cI, 39, .inl f)), (ad, .inl (cI, 39, .inl g)), (pa, .inl (cI, 195, .inl pf)), (eA, .inl (cI, 3, .inl (upd z 0 ((z 0) + 1))))]) S G (c_X4_error_2 l D cI cS y nw ad pa eA sn hs f g pf z) gX4_setSilence_X4_error rfl (by decide +kernel) ⟨⟨rfl, rfl⟩, Nat.le_of_ble_eq_true rfl, Nat.le_of_ble_eq_true rfl⟩ [0, 1, 2, 3, 4] (by decide) rfl [y, nw, ad, pa, eA] rfl rfl 0 rfl rfl rfl hl.1 rfl (Nat.le_of_ble_eq_true rfl) ⟨Nat.zero_le _, Nat.zero_le _⟩ dX4_setSilence_34 rfl rfl (fun H locs G => ?_)
    have es : (s_X4_setSilence sn f pf z q bg en) = ((-2), sn, f, pf, (upd z 0 ((z 0) + 1))) := by rw [s_X4_setSilence, if_pos c_1]
    exact k_iret S G hr hlk dX4_setSilence_37 (by first | (rw [es]; done) | (rw [es]; rfl) | (simp only [es]; done) | (simp only [es]; rfl)) (by first | (rw [es]; done) | (rw [es]; rfl) | (simp only [es]; done) | (simp only [es]; rfl))
  · skip
    refine lv_iload_n hx hb dX4_setSilence_9 rfl (lv_at hl 2 rfl) ?_
    refine lv_iconst (v := 0) hx hb dX4_setSilence_10 (by decide) ?_
    refine lv_sipush (v := 1439) hx hb dX4_setSilence_11 (by decide) ?_
    refine k_callS (n := 3) (As := [.int bg, .int 0, .int 1439]) (rest := []) (st1 := [.int (s_X4_in bg 0 1439)]) (ws1 := [(y, .inr (4, [.ref nw, .ref ad, .ref pa, .int sn, .ref eA, .long hs])), (nw, .inl (cI, 39, .inl f)), (ad, .inl (cI, 39, .inl g)), (pa, .inl (cI, 195, .inl pf)), (eA, .inl (cI, 3, .inl z))]) S G (c_X4_in l D cI cS bg 0 1439) gX4_setSilence_X4_in rfl (by decide +kernel) ⟨⟨rfl, rfl⟩, Nat.le_of_ble_eq_true rfl, Nat.le_of_ble_eq_true rfl⟩ [] (by decide) rfl [] rfl rfl rfl hl.1 rfl (Nat.le_of_ble_eq_true rfl) ⟨Nat.zero_le _, Nat.zero_le _⟩ dX4_setSilence_14 rfl rfl (fun H locs G => ?_)
    refine lv_if_eq (tgt := 31) hx hb dX4_setSilence_17 (by decide) (fun c_2 => ?_) (fun c_2 => ?_)
    · skip
      refine lv_aload_n hx hb dX4_setSilence_31 rfl (lv_at hl 0 rfl) ?_
      refine lv_bipush (v := (-2)) hx hb dX4_setSilence_32 (by decide) ?_
      refine k_callV (n := 1) (As := [.int (-2)]) (rest := []) (st1 := [.int (-2)]) (ws1 := [(y, .inr (4, [.ref nw, .ref ad, .ref pa, .int sn, .ref eA, .long hs])), (nw, .inl (cI, 39, .inl f)), (ad, .inl (cI, 39, .inl g)), (pa, .inl (cI, 195, .inl pf)), (eA, .inl (cI, 3, .inl (upd z 0 ((z 0) + 1))))]) S G (c_X4_error_2 l D cI cS y nw ad pa eA sn hs f g pf z) gX4_setSilence_X4_error rfl (by decide +kernel) ⟨⟨rfl, rfl⟩, Nat.le_of_ble_eq_true rfl, Nat.le_of_ble_eq_true rfl⟩ [0, 1, 2, 3, 4] (by decide) rfl [y, nw, ad, pa, eA] rfl rfl 0 rfl rfl rfl hl.1 rfl (Nat.le_of_ble_eq_true rfl) ⟨Nat.zero_le _, Nat.zero_le _⟩ dX4_setSilence_34 rfl rfl (fun H locs G => ?_)
      have es : (s_X4_setSilence sn f pf z q bg en) = ((-2), sn, f, pf, (upd z 0 ((z 0) + 1))) := by rw [s_X4_setSilence, if_neg c_1, if_pos c_2]
      exact k_iret S G hr hlk dX4_setSilence_37 (by first | (rw [es]; done) | (rw [es]; rfl) | (simp only [es]; done) | (simp only [es]; rfl)) (by first | (rw [es]; done) | (rw [es]; rfl) | (simp only [es]; done) | (simp only [es]; rfl))
    · skip
      refine lv_iload_n hx hb dX4_setSilence_20 rfl (lv_at hl 3 rfl) ?_
      refine lv_iconst (v := 0) hx hb dX4_setSilence_21 (by decide) ?_
      refine lv_sipush (v := 1439) hx hb dX4_setSilence_22 (by decide) ?_
      refine k_callS (n := 3) (As := [.int en, .int 0, .int 1439]) (rest := []) (st1 := [.int (s_X4_in en 0 1439)]) (ws1 := [(y, .inr (4, [.ref nw, .ref ad, .ref pa, .int sn, .ref eA, .long hs])), (nw, .inl (cI, 39, .inl f)), (ad, .inl (cI, 39, .inl g)), (pa, .inl (cI, 195, .inl pf)), (eA, .inl (cI, 3, .inl z))]) S G (c_X4_in l D cI cS en 0 1439) gX4_setSilence_X4_in rfl (by decide +kernel) ⟨⟨rfl, rfl⟩, Nat.le_of_ble_eq_true rfl, Nat.le_of_ble_eq_true rfl⟩ [] (by decide) rfl [] rfl rfl rfl hl.1 rfl (Nat.le_of_ble_eq_true rfl) ⟨Nat.zero_le _, Nat.zero_le _⟩ dX4_setSilence_25 rfl rfl (fun H locs G => ?_)
      refine lv_if_ne (tgt := 38) hx hb dX4_setSilence_28 (by decide) (fun c_3 => ?_) (fun c_3 => ?_)
      · skip
        refine lv_aload_n hx hb dX4_setSilence_38 rfl (lv_at hl 0 rfl) ?_
        refine k_callV (n := 0) (As := []) (rest := []) (st1 := []) (ws1 := [(y, .inr (4, [.ref nw, .ref ad, .ref pa, .int (sSc sn), .ref eA, .long hs])), (nw, .inl (cI, 39, .inl f)), (ad, .inl (cI, 39, .inl g)), (pa, .inl (cI, 195, .inl (mSp sn pf f))), (eA, .inl (cI, 3, .inl z))]) S G (c_X4_save l D cI cS y nw ad pa eA sn hs f g pf z hsn) gX4_setSilence_X4_save rfl (by decide +kernel) ⟨⟨rfl, rfl⟩, Nat.le_of_ble_eq_true rfl, Nat.le_of_ble_eq_true rfl⟩ [0, 1, 2, 3, 4] (by decide) rfl [y, nw, ad, pa, eA] rfl rfl 0 rfl rfl rfl hl.1 rfl (Nat.le_of_ble_eq_true rfl) ⟨Nat.zero_le _, Nat.zero_le _⟩ dX4_setSilence_39 rfl rfl (fun H locs G => ?_)
        refine lv_aload_n hx hb dX4_setSilence_42 rfl (lv_at hl 0 rfl) ?_
        refine k_get (v := .ref nw) S G 0 rfl rfl hiX4 0 (by decide) hf7 rfl dX4_setSilence_43 ?_
        refine lv_iconst (v := 1) hx hb dX4_setSilence_46 (by decide) ?_
        refine k_iald (x := (f 1)) S G 1 0 rfl rfl (by unfold vp_in; decide) rfl dX4_setSilence_47 ?_
        refine lv_istore (lv' := [(4, .int (f 1)), (0, .ref y), (1, .int q), (2, .int bg), (3, .int en)]) hx hb dX4_setSilence_48 hl (by decide) rfl (fun ls hl => ?_)
        refine lv_aload_n hx hb dX4_setSilence_50 rfl (lv_at hl 1 rfl) ?_
        refine k_get (v := .ref nw) S G 0 rfl rfl hiX4 0 (by decide) hf7 rfl dX4_setSilence_51 ?_
        refine lv_iconst (v := 1) hx hb dX4_setSilence_54 (by decide) ?_
        refine lv_iload_n hx hb dX4_setSilence_55 rfl (lv_at hl 2 rfl) ?_
        refine k_iast (ws1 := [(y, .inr (4, [.ref nw, .ref ad, .ref pa, .int (sSc sn), .ref eA, .long hs])), (nw, .inl (cI, 39, .inl (upd f 1 q))), (ad, .inl (cI, 39, .inl g)), (pa, .inl (cI, 195, .inl (mSp sn pf f))), (eA, .inl (cI, 3, .inl z))]) S G 1 0 rfl rfl (by unfold vp_in; decide) dX4_setSilence_56 rfl (fun H locs G => ?_)
        refine lv_aload_n hx hb dX4_setSilence_57 rfl (lv_at hl 1 rfl) ?_
        refine k_get (v := .ref nw) S G 0 rfl rfl hiX4 0 (by decide) hf7 rfl dX4_setSilence_58 ?_
        refine lv_iconst (v := 2) hx hb dX4_setSilence_61 (by decide) ?_
        refine lv_iload_n hx hb dX4_setSilence_62 rfl (lv_at hl 3 rfl) ?_
        refine k_iast (ws1 := [(y, .inr (4, [.ref nw, .ref ad, .ref pa, .int (sSc sn), .ref eA, .long hs])), (nw, .inl (cI, 39, .inl (upd (upd f 1 q) 2 bg))), (ad, .inl (cI, 39, .inl g)), (pa, .inl (cI, 195, .inl (mSp sn pf f))), (eA, .inl (cI, 3, .inl z))]) S G 1 0 rfl rfl (by unfold vp_in; decide) dX4_setSilence_63 rfl (fun H locs G => ?_)
        refine lv_aload_n hx hb dX4_setSilence_64 rfl (lv_at hl 1 rfl) ?_
        refine k_get (v := .ref nw) S G 0 rfl rfl hiX4 0 (by decide) hf7 rfl dX4_setSilence_65 ?_
        refine lv_iconst (v := 3) hx hb dX4_setSilence_68 (by decide) ?_
        refine lv_iload_n hx hb dX4_setSilence_69 rfl (lv_at hl 4 rfl) ?_
        refine k_iast (ws1 := [(y, .inr (4, [.ref nw, .ref ad, .ref pa, .int (sSc sn), .ref eA, .long hs])), (nw, .inl (cI, 39, .inl (upd (upd (upd f 1 q) 2 bg) 3 en))), (ad, .inl (cI, 39, .inl g)), (pa, .inl (cI, 195, .inl (mSp sn pf f))), (eA, .inl (cI, 3, .inl z))]) S G 1 0 rfl rfl (by unfold vp_in; decide) dX4_setSilence_70 rfl (fun H locs G => ?_)
        refine lv_iload hx hb dX4_setSilence_71 (lv_at hl 0 rfl) ?_
        have es : (s_X4_setSilence sn f pf z q bg en) = ((f 1), (sSc sn), (upd (upd (upd f 1 q) 2 bg) 3 en), (mSp sn pf f), z) := by rw [s_X4_setSilence, if_neg c_1, if_neg c_2, if_neg c_3]
        exact k_iret S G hr hlk dX4_setSilence_73 (by first | (rw [es]; done) | (rw [es]; rfl) | (simp only [es]; done) | (simp only [es]; rfl)) (by first | (rw [es]; done) | (rw [es]; rfl) | (simp only [es]; done) | (simp only [es]; rfl))
      · skip
        refine lv_aload_n hx hb dX4_setSilence_31 rfl (lv_at hl 0 rfl) ?_
        refine lv_bipush (v := (-2)) hx hb dX4_setSilence_32 (by decide) ?_
        refine k_callV (n := 1) (As := [.int (-2)]) (rest := []) (st1 := [.int (-2)]) (ws1 := [(y, .inr (4, [.ref nw, .ref ad, .ref pa, .int sn, .ref eA, .long hs])), (nw, .inl (cI, 39, .inl f)), (ad, .inl (cI, 39, .inl g)), (pa, .inl (cI, 195, .inl pf)), (eA, .inl (cI, 3, .inl (upd z 0 ((z 0) + 1))))]) S G (c_X4_error_2 l D cI cS y nw ad pa eA sn hs f g pf z) gX4_setSilence_X4_error rfl (by decide +kernel) ⟨⟨rfl, rfl⟩, Nat.le_of_ble_eq_true rfl, Nat.le_of_ble_eq_true rfl⟩ [0, 1, 2, 3, 4] (by decide) rfl [y, nw, ad, pa, eA] rfl rfl 0 rfl rfl rfl hl.1 rfl (Nat.le_of_ble_eq_true rfl) ⟨Nat.zero_le _, Nat.zero_le _⟩ dX4_setSilence_34 rfl rfl (fun H locs G => ?_)
        have es : (s_X4_setSilence sn f pf z q bg en) = ((-2), sn, f, pf, (upd z 0 ((z 0) + 1))) := by rw [s_X4_setSilence, if_neg c_1, if_neg c_2, if_pos c_3]
        exact k_iret S G hr hlk dX4_setSilence_37 (by first | (rw [es]; done) | (rw [es]; rfl) | (simp only [es]; done) | (simp only [es]; rfl)) (by first | (rw [es]; done) | (rw [es]; rfl) | (simp only [es]; done) | (simp only [es]; rfl))
def s_X4_wind (sn : Int32) (f : Nat → Int32) (pf : Nat → Int32) (z : Nat → Int32) (tn : Int32) (q : Int32) : Int32 × Int32 × (Nat → Int32) × (Nat → Int32) × (Nat → Int32) := (if tn = 0 then (if (s_X4_in q 1 2000) = 0 then ((-2), sn, f, pf, (upd z 0 ((z 0) + 1))) else (if ((f 6) + q) ≤ 2000 then ((((f 6) + q) - (f 6)), (sSc sn), (upd f 6 ((f 6) + q)), (mSp sn pf f), z) else ((2000 - (f 6)), (sSc sn), (upd f 6 2000), (mSp sn pf f), z))) else (if tn = 1 then (if (s_X4_in q 1 2000) = 0 then ((-2), sn, f, pf, (upd z 0 ((z 0) + 1))) else (if ((f 11) + q) ≤ 2000 then ((((f 11) + q) - (f 11)), (sSc sn), (upd f 11 ((f 11) + q)), (mSp sn pf f), z) else ((2000 - (f 11)), (sSc sn), (upd f 11 2000), (mSp sn pf f), z))) else ((-2), sn, f, pf, (upd z 0 ((z 0) + 1)))))
set_option maxHeartbeats 4000000 in
set_option maxRecDepth 100000 in
theorem c_X4_wind (l : Launch) (D : va_G) (cI cS : ClassId) (y : Nat) (nw : Nat) (ad : Nat) (pa : Nat) (eA : Nat) (sn : Int32) (hs : Int64) (f : Nat → Int32) (g : Nat → Int32) (pf : Nat → Int32) (z : Nat → Int32) (tn : Int32) (q : Int32) (hsn : scOk sn) : Ct l yX4_wind wsX4_wind ({ frames := 2, cells := 0, slots := 0, locals := 71 }) D (tyL cI cS) [.ref y, .int tn, .int q] [(y, .inr (4, [.ref nw, .ref ad, .ref pa, .int sn, .ref eA, .long hs])), (nw, .inl (cI, 39, .inl f)), (ad, .inl (cI, 39, .inl g)), (pa, .inl (cI, 195, .inl pf)), (eA, .inl (cI, 3, .inl z))] (some (.int ((s_X4_wind sn f pf z tn q).1))) [(y, .inr (4, [.ref nw, .ref ad, .ref pa, .int ((s_X4_wind sn f pf z tn q).2.1), .ref eA, .long hs])), (nw, .inl (cI, 39, .inl ((s_X4_wind sn f pf z tn q).2.2.1))), (ad, .inl (cI, 39, .inl g)), (pa, .inl (cI, 195, .inl ((s_X4_wind sn f pf z tn q).2.2.2.1))), (eA, .inl (cI, 3, .inl ((s_X4_wind sn f pf z tn q).2.2.2.2)))] := by
  refine Ct.of (cc := cX4_wind) (maxL := 5) (ret := (some .int)) (by decide) rfl (Nat.le_of_ble_eq_true rfl) ?_
  intro p ev s m args below meth c A ls S hr hlk G hl
  have hx := S.1
  have hb := S.2.1
  have hown : s.vm.findClass RX4 = some m.cls := S.2.2.2.1
  have hts := S.2.2.2.2
  have hl : lv_has ls 5 [(0, .ref y), (1, .int tn), (2, .int q)] := hl
  have hiX4 : ∀ w ∈ wsX40, w ∈ wsX4_wind := by decide +kernel
  have hf7 := hts (.fieldLink RX4 7 "StrikingWorkModel" "now" "[I") (by decide +kernel)
  by_cases c_1 : tn = 0
  · skip
    have hl : lv_has ls 5 [(0, .ref y), (1, .int 0), (2, .int q)] := by rw [c_1] at hl; exact hl
    refine lv_iload_n hx hb dX4_wind_0 rfl (lv_at hl 1 rfl) ?_
    refine k_callS (n := 1) (As := [.int 0]) (rest := []) (st1 := [.int 1]) (ws1 := [(y, .inr (4, [.ref nw, .ref ad, .ref pa, .int sn, .ref eA, .long hs])), (nw, .inl (cI, 39, .inl f)), (ad, .inl (cI, 39, .inl g)), (pa, .inl (cI, 195, .inl pf)), (eA, .inl (cI, 3, .inl z))]) S G (c_X4_isTrain l D cI cS 0) gX4_wind_X4_isTrain rfl (by decide +kernel) ⟨⟨rfl, rfl⟩, Nat.le_of_ble_eq_true rfl, Nat.le_of_ble_eq_true rfl⟩ [] (by decide) rfl [] rfl rfl rfl hl.1 rfl (Nat.le_of_ble_eq_true rfl) ⟨Nat.zero_le _, Nat.zero_le _⟩ dX4_wind_1 (congrArg (fun z => Value.int z :: []) (by decide : (s_X4_isTrain 0) = 1)) rfl (fun H locs G => ?_)
    refine lv_if_eq (tgt := 18) hx hb dX4_wind_4 (by decide) (fun c_2 => absurd c_2 (by decide)) (fun c_2 => ?_)
    refine lv_iload_n hx hb dX4_wind_7 rfl (lv_at hl 2 rfl) ?_
    refine lv_iconst (v := 1) hx hb dX4_wind_8 (by decide) ?_
    refine lv_sipush (v := 2000) hx hb dX4_wind_9 (by decide) ?_
    refine k_callS (n := 3) (As := [.int q, .int 1, .int 2000]) (rest := []) (st1 := [.int (s_X4_in q 1 2000)]) (ws1 := [(y, .inr (4, [.ref nw, .ref ad, .ref pa, .int sn, .ref eA, .long hs])), (nw, .inl (cI, 39, .inl f)), (ad, .inl (cI, 39, .inl g)), (pa, .inl (cI, 195, .inl pf)), (eA, .inl (cI, 3, .inl z))]) S G (c_X4_in l D cI cS q 1 2000) gX4_wind_X4_in rfl (by decide +kernel) ⟨⟨rfl, rfl⟩, Nat.le_of_ble_eq_true rfl, Nat.le_of_ble_eq_true rfl⟩ [] (by decide) rfl [] rfl rfl rfl hl.1 rfl (Nat.le_of_ble_eq_true rfl) ⟨Nat.zero_le _, Nat.zero_le _⟩ dX4_wind_12 rfl rfl (fun H locs G => ?_)
    refine lv_if_ne (tgt := 25) hx hb dX4_wind_15 (by decide) (fun c_3 => ?_) (fun c_3 => ?_)
    · skip
      refine lv_aload_n hx hb dX4_wind_25 rfl (lv_at hl 0 rfl) ?_
      refine k_callV (n := 0) (As := []) (rest := []) (st1 := []) (ws1 := [(y, .inr (4, [.ref nw, .ref ad, .ref pa, .int (sSc sn), .ref eA, .long hs])), (nw, .inl (cI, 39, .inl f)), (ad, .inl (cI, 39, .inl g)), (pa, .inl (cI, 195, .inl (mSp sn pf f))), (eA, .inl (cI, 3, .inl z))]) S G (c_X4_save l D cI cS y nw ad pa eA sn hs f g pf z hsn) gX4_wind_X4_save rfl (by decide +kernel) ⟨⟨rfl, rfl⟩, Nat.le_of_ble_eq_true rfl, Nat.le_of_ble_eq_true rfl⟩ [0, 1, 2, 3, 4] (by decide) rfl [y, nw, ad, pa, eA] rfl rfl 0 rfl rfl rfl hl.1 rfl (Nat.le_of_ble_eq_true rfl) ⟨Nat.zero_le _, Nat.zero_le _⟩ dX4_wind_26 rfl rfl (fun H locs G => ?_)
      refine lv_aload_n hx hb dX4_wind_29 rfl (lv_at hl 0 rfl) ?_
      refine k_get (v := .ref nw) S G 0 rfl rfl hiX4 0 (by decide) hf7 rfl dX4_wind_30 ?_
      refine lv_iload_n hx hb dX4_wind_33 rfl (lv_at hl 1 rfl) ?_
      refine lv_iconst (v := 2) hx hb dX4_wind_34 (by decide) ?_
      refine k_callS (n := 2) (As := [.int 0, .int 2]) (rest := [.ref nw]) (st1 := [.int 6, .ref nw]) (ws1 := [(y, .inr (4, [.ref nw, .ref ad, .ref pa, .int (sSc sn), .ref eA, .long hs])), (nw, .inl (cI, 39, .inl f)), (ad, .inl (cI, 39, .inl g)), (pa, .inl (cI, 195, .inl (mSp sn pf f))), (eA, .inl (cI, 3, .inl z))]) S G (c_X4_at l D cI cS 0 2) gX4_wind_X4_at rfl (by decide +kernel) ⟨⟨rfl, rfl⟩, Nat.le_of_ble_eq_true rfl, Nat.le_of_ble_eq_true rfl⟩ [] (by decide) rfl [] rfl rfl rfl hl.1 rfl (Nat.le_of_ble_eq_true rfl) ⟨Nat.zero_le _, Nat.zero_le _⟩ dX4_wind_35 (congrArg (fun z => Value.int z :: [.ref nw]) (by decide : (s_X4_at 0 2) = 6)) rfl (fun H locs G => ?_)
      refine k_iald (x := (f 6)) S G 1 0 rfl rfl (by unfold vp_in; decide) rfl dX4_wind_38 ?_
      refine lv_istore_n (lv' := [(3, .int (f 6)), (0, .ref y), (1, .int 0), (2, .int q)]) hx hb dX4_wind_39 rfl hl (by decide) rfl (fun ls hl => ?_)
      refine lv_iload_n hx hb dX4_wind_40 rfl (lv_at hl 0 rfl) ?_
      refine lv_iload_n hx hb dX4_wind_41 rfl (lv_at hl 3 rfl) ?_
      refine lv_iadd hx hb dX4_wind_42 ?_
      refine lv_sipush (v := 2000) hx hb dX4_wind_43 (by decide) ?_
      refine lv_icmp_le (tgt := 55) hx hb dX4_wind_46 (by decide) (fun c_4 => ?_) (fun c_4 => ?_)
      · skip
        refine lv_iload_n hx hb dX4_wind_55 rfl (lv_at hl 0 rfl) ?_
        refine lv_iload_n hx hb dX4_wind_56 rfl (lv_at hl 3 rfl) ?_
        refine lv_iadd hx hb dX4_wind_57 ?_
        refine lv_istore (lv' := [(4, .int ((f 6) + q)), (3, .int (f 6)), (0, .ref y), (1, .int 0), (2, .int q)]) hx hb dX4_wind_58 hl (by decide) rfl (fun ls hl => ?_)
        refine lv_aload_n hx hb dX4_wind_60 rfl (lv_at hl 2 rfl) ?_
        refine k_get (v := .ref nw) S G 0 rfl rfl hiX4 0 (by decide) hf7 rfl dX4_wind_61 ?_
        refine lv_iload_n hx hb dX4_wind_64 rfl (lv_at hl 3 rfl) ?_
        refine lv_iconst (v := 2) hx hb dX4_wind_65 (by decide) ?_
        refine k_callS (n := 2) (As := [.int 0, .int 2]) (rest := [.ref nw]) (st1 := [.int 6, .ref nw]) (ws1 := [(y, .inr (4, [.ref nw, .ref ad, .ref pa, .int (sSc sn), .ref eA, .long hs])), (nw, .inl (cI, 39, .inl f)), (ad, .inl (cI, 39, .inl g)), (pa, .inl (cI, 195, .inl (mSp sn pf f))), (eA, .inl (cI, 3, .inl z))]) S G (c_X4_at l D cI cS 0 2) gX4_wind_X4_at rfl (by decide +kernel) ⟨⟨rfl, rfl⟩, Nat.le_of_ble_eq_true rfl, Nat.le_of_ble_eq_true rfl⟩ [] (by decide) rfl [] rfl rfl rfl hl.1 rfl (Nat.le_of_ble_eq_true rfl) ⟨Nat.zero_le _, Nat.zero_le _⟩ dX4_wind_66 (congrArg (fun z => Value.int z :: [.ref nw]) (by decide : (s_X4_at 0 2) = 6)) rfl (fun H locs G => ?_)
        refine lv_iload hx hb dX4_wind_69 (lv_at hl 0 rfl) ?_
        refine k_iast (ws1 := [(y, .inr (4, [.ref nw, .ref ad, .ref pa, .int (sSc sn), .ref eA, .long hs])), (nw, .inl (cI, 39, .inl (upd f 6 ((f 6) + q)))), (ad, .inl (cI, 39, .inl g)), (pa, .inl (cI, 195, .inl (mSp sn pf f))), (eA, .inl (cI, 3, .inl z))]) S G 1 0 rfl rfl (by unfold vp_in; decide) dX4_wind_71 rfl (fun H locs G => ?_)
        refine lv_iload hx hb dX4_wind_72 (lv_at hl 0 rfl) ?_
        refine lv_iload_n hx hb dX4_wind_74 rfl (lv_at hl 1 rfl) ?_
        refine lv_isub hx hb dX4_wind_75 ?_
        have es : (s_X4_wind sn f pf z tn q) = ((((f 6) + q) - (f 6)), (sSc sn), (upd f 6 ((f 6) + q)), (mSp sn pf f), z) := by rw [s_X4_wind, if_pos c_1, if_neg c_3, if_pos c_4]
        exact k_iret S G hr hlk dX4_wind_76 (by first | (rw [es]; done) | (rw [es]; rfl) | (simp only [es]; done) | (simp only [es]; rfl)) (by first | (rw [es]; done) | (rw [es]; rfl) | (simp only [es]; done) | (simp only [es]; rfl))
      · skip
        refine lv_sipush (v := 2000) hx hb dX4_wind_49 (by decide) ?_
        refine lv_goto (tgt := 58) hx hb dX4_wind_52 (by decide) ?_
        refine lv_istore (lv' := [(4, .int 2000), (3, .int (f 6)), (0, .ref y), (1, .int 0), (2, .int q)]) hx hb dX4_wind_58 hl (by decide) rfl (fun ls hl => ?_)
        refine lv_aload_n hx hb dX4_wind_60 rfl (lv_at hl 2 rfl) ?_
        refine k_get (v := .ref nw) S G 0 rfl rfl hiX4 0 (by decide) hf7 rfl dX4_wind_61 ?_
        refine lv_iload_n hx hb dX4_wind_64 rfl (lv_at hl 3 rfl) ?_
        refine lv_iconst (v := 2) hx hb dX4_wind_65 (by decide) ?_
        refine k_callS (n := 2) (As := [.int 0, .int 2]) (rest := [.ref nw]) (st1 := [.int 6, .ref nw]) (ws1 := [(y, .inr (4, [.ref nw, .ref ad, .ref pa, .int (sSc sn), .ref eA, .long hs])), (nw, .inl (cI, 39, .inl f)), (ad, .inl (cI, 39, .inl g)), (pa, .inl (cI, 195, .inl (mSp sn pf f))), (eA, .inl (cI, 3, .inl z))]) S G (c_X4_at l D cI cS 0 2) gX4_wind_X4_at rfl (by decide +kernel) ⟨⟨rfl, rfl⟩, Nat.le_of_ble_eq_true rfl, Nat.le_of_ble_eq_true rfl⟩ [] (by decide) rfl [] rfl rfl rfl hl.1 rfl (Nat.le_of_ble_eq_true rfl) ⟨Nat.zero_le _, Nat.zero_le _⟩ dX4_wind_66 (congrArg (fun z => Value.int z :: [.ref nw]) (by decide : (s_X4_at 0 2) = 6)) rfl (fun H locs G => ?_)
        refine lv_iload hx hb dX4_wind_69 (lv_at hl 0 rfl) ?_
        refine k_iast (ws1 := [(y, .inr (4, [.ref nw, .ref ad, .ref pa, .int (sSc sn), .ref eA, .long hs])), (nw, .inl (cI, 39, .inl (upd f 6 2000))), (ad, .inl (cI, 39, .inl g)), (pa, .inl (cI, 195, .inl (mSp sn pf f))), (eA, .inl (cI, 3, .inl z))]) S G 1 0 rfl rfl (by unfold vp_in; decide) dX4_wind_71 rfl (fun H locs G => ?_)
        refine lv_iload hx hb dX4_wind_72 (lv_at hl 0 rfl) ?_
        refine lv_iload_n hx hb dX4_wind_74 rfl (lv_at hl 1 rfl) ?_
        refine lv_isub hx hb dX4_wind_75 ?_
        have es : (s_X4_wind sn f pf z tn q) = ((2000 - (f 6)), (sSc sn), (upd f 6 2000), (mSp sn pf f), z) := by rw [s_X4_wind, if_pos c_1, if_neg c_3, if_neg c_4]
        exact k_iret S G hr hlk dX4_wind_76 (by first | (rw [es]; done) | (rw [es]; rfl) | (simp only [es]; done) | (simp only [es]; rfl)) (by first | (rw [es]; done) | (rw [es]; rfl) | (simp only [es]; done) | (simp only [es]; rfl))
    · skip
      refine lv_aload_n hx hb dX4_wind_18 rfl (lv_at hl 0 rfl) ?_
      refine lv_bipush (v := (-2)) hx hb dX4_wind_19 (by decide) ?_
      refine k_callV (n := 1) (As := [.int (-2)]) (rest := []) (st1 := [.int (-2)]) (ws1 := [(y, .inr (4, [.ref nw, .ref ad, .ref pa, .int sn, .ref eA, .long hs])), (nw, .inl (cI, 39, .inl f)), (ad, .inl (cI, 39, .inl g)), (pa, .inl (cI, 195, .inl pf)), (eA, .inl (cI, 3, .inl (upd z 0 ((z 0) + 1))))]) S G (c_X4_error_2 l D cI cS y nw ad pa eA sn hs f g pf z) gX4_wind_X4_error rfl (by decide +kernel) ⟨⟨rfl, rfl⟩, Nat.le_of_ble_eq_true rfl, Nat.le_of_ble_eq_true rfl⟩ [0, 1, 2, 3, 4] (by decide) rfl [y, nw, ad, pa, eA] rfl rfl 0 rfl rfl rfl hl.1 rfl (Nat.le_of_ble_eq_true rfl) ⟨Nat.zero_le _, Nat.zero_le _⟩ dX4_wind_21 rfl rfl (fun H locs G => ?_)
      have es : (s_X4_wind sn f pf z tn q) = ((-2), sn, f, pf, (upd z 0 ((z 0) + 1))) := by rw [s_X4_wind, if_pos c_1, if_pos c_3]
      exact k_iret S G hr hlk dX4_wind_24 (by first | (rw [es]; done) | (rw [es]; rfl) | (simp only [es]; done) | (simp only [es]; rfl)) (by first | (rw [es]; done) | (rw [es]; rfl) | (simp only [es]; done) | (simp only [es]; rfl))
  · skip
    by_cases c_5 : tn = 1
    · skip
      have hl : lv_has ls 5 [(0, .ref y), (1, .int 1), (2, .int q)] := by rw [c_5] at hl; exact hl
      refine lv_iload_n hx hb dX4_wind_0 rfl (lv_at hl 1 rfl) ?_
      refine k_callS (n := 1) (As := [.int 1]) (rest := []) (st1 := [.int 1]) (ws1 := [(y, .inr (4, [.ref nw, .ref ad, .ref pa, .int sn, .ref eA, .long hs])), (nw, .inl (cI, 39, .inl f)), (ad, .inl (cI, 39, .inl g)), (pa, .inl (cI, 195, .inl pf)), (eA, .inl (cI, 3, .inl z))]) S G (c_X4_isTrain l D cI cS 1) gX4_wind_X4_isTrain rfl (by decide +kernel) ⟨⟨rfl, rfl⟩, Nat.le_of_ble_eq_true rfl, Nat.le_of_ble_eq_true rfl⟩ [] (by decide) rfl [] rfl rfl rfl hl.1 rfl (Nat.le_of_ble_eq_true rfl) ⟨Nat.zero_le _, Nat.zero_le _⟩ dX4_wind_1 (congrArg (fun z => Value.int z :: []) (by decide : (s_X4_isTrain 1) = 1)) rfl (fun H locs G => ?_)
      refine lv_if_eq (tgt := 18) hx hb dX4_wind_4 (by decide) (fun c_6 => absurd c_6 (by decide)) (fun c_6 => ?_)
      refine lv_iload_n hx hb dX4_wind_7 rfl (lv_at hl 2 rfl) ?_
      refine lv_iconst (v := 1) hx hb dX4_wind_8 (by decide) ?_
      refine lv_sipush (v := 2000) hx hb dX4_wind_9 (by decide) ?_
      refine k_callS (n := 3) (As := [.int q, .int 1, .int 2000]) (rest := []) (st1 := [.int (s_X4_in q 1 2000)]) (ws1 := [(y, .inr (4, [.ref nw, .ref ad, .ref pa, .int sn, .ref eA, .long hs])), (nw, .inl (cI, 39, .inl f)), (ad, .inl (cI, 39, .inl g)), (pa, .inl (cI, 195, .inl pf)), (eA, .inl (cI, 3, .inl z))]) S G (c_X4_in l D cI cS q 1 2000) gX4_wind_X4_in rfl (by decide +kernel) ⟨⟨rfl, rfl⟩, Nat.le_of_ble_eq_true rfl, Nat.le_of_ble_eq_true rfl⟩ [] (by decide) rfl [] rfl rfl rfl hl.1 rfl (Nat.le_of_ble_eq_true rfl) ⟨Nat.zero_le _, Nat.zero_le _⟩ dX4_wind_12 rfl rfl (fun H locs G => ?_)
      refine lv_if_ne (tgt := 25) hx hb dX4_wind_15 (by decide) (fun c_7 => ?_) (fun c_7 => ?_)
      · skip
        refine lv_aload_n hx hb dX4_wind_25 rfl (lv_at hl 0 rfl) ?_
        refine k_callV (n := 0) (As := []) (rest := []) (st1 := []) (ws1 := [(y, .inr (4, [.ref nw, .ref ad, .ref pa, .int (sSc sn), .ref eA, .long hs])), (nw, .inl (cI, 39, .inl f)), (ad, .inl (cI, 39, .inl g)), (pa, .inl (cI, 195, .inl (mSp sn pf f))), (eA, .inl (cI, 3, .inl z))]) S G (c_X4_save l D cI cS y nw ad pa eA sn hs f g pf z hsn) gX4_wind_X4_save rfl (by decide +kernel) ⟨⟨rfl, rfl⟩, Nat.le_of_ble_eq_true rfl, Nat.le_of_ble_eq_true rfl⟩ [0, 1, 2, 3, 4] (by decide) rfl [y, nw, ad, pa, eA] rfl rfl 0 rfl rfl rfl hl.1 rfl (Nat.le_of_ble_eq_true rfl) ⟨Nat.zero_le _, Nat.zero_le _⟩ dX4_wind_26 rfl rfl (fun H locs G => ?_)
        refine lv_aload_n hx hb dX4_wind_29 rfl (lv_at hl 0 rfl) ?_
        refine k_get (v := .ref nw) S G 0 rfl rfl hiX4 0 (by decide) hf7 rfl dX4_wind_30 ?_
        refine lv_iload_n hx hb dX4_wind_33 rfl (lv_at hl 1 rfl) ?_
        refine lv_iconst (v := 2) hx hb dX4_wind_34 (by decide) ?_
        refine k_callS (n := 2) (As := [.int 1, .int 2]) (rest := [.ref nw]) (st1 := [.int 11, .ref nw]) (ws1 := [(y, .inr (4, [.ref nw, .ref ad, .ref pa, .int (sSc sn), .ref eA, .long hs])), (nw, .inl (cI, 39, .inl f)), (ad, .inl (cI, 39, .inl g)), (pa, .inl (cI, 195, .inl (mSp sn pf f))), (eA, .inl (cI, 3, .inl z))]) S G (c_X4_at l D cI cS 1 2) gX4_wind_X4_at rfl (by decide +kernel) ⟨⟨rfl, rfl⟩, Nat.le_of_ble_eq_true rfl, Nat.le_of_ble_eq_true rfl⟩ [] (by decide) rfl [] rfl rfl rfl hl.1 rfl (Nat.le_of_ble_eq_true rfl) ⟨Nat.zero_le _, Nat.zero_le _⟩ dX4_wind_35 (congrArg (fun z => Value.int z :: [.ref nw]) (by decide : (s_X4_at 1 2) = 11)) rfl (fun H locs G => ?_)
        refine k_iald (x := (f 11)) S G 1 0 rfl rfl (by unfold vp_in; decide) rfl dX4_wind_38 ?_
        refine lv_istore_n (lv' := [(3, .int (f 11)), (0, .ref y), (1, .int 1), (2, .int q)]) hx hb dX4_wind_39 rfl hl (by decide) rfl (fun ls hl => ?_)
        refine lv_iload_n hx hb dX4_wind_40 rfl (lv_at hl 0 rfl) ?_
        refine lv_iload_n hx hb dX4_wind_41 rfl (lv_at hl 3 rfl) ?_
        refine lv_iadd hx hb dX4_wind_42 ?_
        refine lv_sipush (v := 2000) hx hb dX4_wind_43 (by decide) ?_
        refine lv_icmp_le (tgt := 55) hx hb dX4_wind_46 (by decide) (fun c_8 => ?_) (fun c_8 => ?_)
        · skip
          refine lv_iload_n hx hb dX4_wind_55 rfl (lv_at hl 0 rfl) ?_
          refine lv_iload_n hx hb dX4_wind_56 rfl (lv_at hl 3 rfl) ?_
          refine lv_iadd hx hb dX4_wind_57 ?_
          refine lv_istore (lv' := [(4, .int ((f 11) + q)), (3, .int (f 11)), (0, .ref y), (1, .int 1), (2, .int q)]) hx hb dX4_wind_58 hl (by decide) rfl (fun ls hl => ?_)
          refine lv_aload_n hx hb dX4_wind_60 rfl (lv_at hl 2 rfl) ?_
          refine k_get (v := .ref nw) S G 0 rfl rfl hiX4 0 (by decide) hf7 rfl dX4_wind_61 ?_
          refine lv_iload_n hx hb dX4_wind_64 rfl (lv_at hl 3 rfl) ?_
          refine lv_iconst (v := 2) hx hb dX4_wind_65 (by decide) ?_
          refine k_callS (n := 2) (As := [.int 1, .int 2]) (rest := [.ref nw]) (st1 := [.int 11, .ref nw]) (ws1 := [(y, .inr (4, [.ref nw, .ref ad, .ref pa, .int (sSc sn), .ref eA, .long hs])), (nw, .inl (cI, 39, .inl f)), (ad, .inl (cI, 39, .inl g)), (pa, .inl (cI, 195, .inl (mSp sn pf f))), (eA, .inl (cI, 3, .inl z))]) S G (c_X4_at l D cI cS 1 2) gX4_wind_X4_at rfl (by decide +kernel) ⟨⟨rfl, rfl⟩, Nat.le_of_ble_eq_true rfl, Nat.le_of_ble_eq_true rfl⟩ [] (by decide) rfl [] rfl rfl rfl hl.1 rfl (Nat.le_of_ble_eq_true rfl) ⟨Nat.zero_le _, Nat.zero_le _⟩ dX4_wind_66 (congrArg (fun z => Value.int z :: [.ref nw]) (by decide : (s_X4_at 1 2) = 11)) rfl (fun H locs G => ?_)
          refine lv_iload hx hb dX4_wind_69 (lv_at hl 0 rfl) ?_
          refine k_iast (ws1 := [(y, .inr (4, [.ref nw, .ref ad, .ref pa, .int (sSc sn), .ref eA, .long hs])), (nw, .inl (cI, 39, .inl (upd f 11 ((f 11) + q)))), (ad, .inl (cI, 39, .inl g)), (pa, .inl (cI, 195, .inl (mSp sn pf f))), (eA, .inl (cI, 3, .inl z))]) S G 1 0 rfl rfl (by unfold vp_in; decide) dX4_wind_71 rfl (fun H locs G => ?_)
          refine lv_iload hx hb dX4_wind_72 (lv_at hl 0 rfl) ?_
          refine lv_iload_n hx hb dX4_wind_74 rfl (lv_at hl 1 rfl) ?_
          refine lv_isub hx hb dX4_wind_75 ?_
          have es : (s_X4_wind sn f pf z tn q) = ((((f 11) + q) - (f 11)), (sSc sn), (upd f 11 ((f 11) + q)), (mSp sn pf f), z) := by rw [s_X4_wind, if_neg c_1, if_pos c_5, if_neg c_7, if_pos c_8]
          exact k_iret S G hr hlk dX4_wind_76 (by first | (rw [es]; done) | (rw [es]; rfl) | (simp only [es]; done) | (simp only [es]; rfl)) (by first | (rw [es]; done) | (rw [es]; rfl) | (simp only [es]; done) | (simp only [es]; rfl))
        · skip
          refine lv_sipush (v := 2000) hx hb dX4_wind_49 (by decide) ?_
          refine lv_goto (tgt := 58) hx hb dX4_wind_52 (by decide) ?_
          refine lv_istore (lv' := [(4, .int 2000), (3, .int (f 11)), (0, .ref y), (1, .int 1), (2, .int q)]) hx hb dX4_wind_58 hl (by decide) rfl (fun ls hl => ?_)
          refine lv_aload_n hx hb dX4_wind_60 rfl (lv_at hl 2 rfl) ?_
          refine k_get (v := .ref nw) S G 0 rfl rfl hiX4 0 (by decide) hf7 rfl dX4_wind_61 ?_
          refine lv_iload_n hx hb dX4_wind_64 rfl (lv_at hl 3 rfl) ?_
          refine lv_iconst (v := 2) hx hb dX4_wind_65 (by decide) ?_
          refine k_callS (n := 2) (As := [.int 1, .int 2]) (rest := [.ref nw]) (st1 := [.int 11, .ref nw]) (ws1 := [(y, .inr (4, [.ref nw, .ref ad, .ref pa, .int (sSc sn), .ref eA, .long hs])), (nw, .inl (cI, 39, .inl f)), (ad, .inl (cI, 39, .inl g)), (pa, .inl (cI, 195, .inl (mSp sn pf f))), (eA, .inl (cI, 3, .inl z))]) S G (c_X4_at l D cI cS 1 2) gX4_wind_X4_at rfl (by decide +kernel) ⟨⟨rfl, rfl⟩, Nat.le_of_ble_eq_true rfl, Nat.le_of_ble_eq_true rfl⟩ [] (by decide) rfl [] rfl rfl rfl hl.1 rfl (Nat.le_of_ble_eq_true rfl) ⟨Nat.zero_le _, Nat.zero_le _⟩ dX4_wind_66 (congrArg (fun z => Value.int z :: [.ref nw]) (by decide : (s_X4_at 1 2) = 11)) rfl (fun H locs G => ?_)
          refine lv_iload hx hb dX4_wind_69 (lv_at hl 0 rfl) ?_
          refine k_iast (ws1 := [(y, .inr (4, [.ref nw, .ref ad, .ref pa, .int (sSc sn), .ref eA, .long hs])), (nw, .inl (cI, 39, .inl (upd f 11 2000))), (ad, .inl (cI, 39, .inl g)), (pa, .inl (cI, 195, .inl (mSp sn pf f))), (eA, .inl (cI, 3, .inl z))]) S G 1 0 rfl rfl (by unfold vp_in; decide) dX4_wind_71 rfl (fun H locs G => ?_)
          refine lv_iload hx hb dX4_wind_72 (lv_at hl 0 rfl) ?_
          refine lv_iload_n hx hb dX4_wind_74 rfl (lv_at hl 1 rfl) ?_
          refine lv_isub hx hb dX4_wind_75 ?_
          have es : (s_X4_wind sn f pf z tn q) = ((2000 - (f 11)), (sSc sn), (upd f 11 2000), (mSp sn pf f), z) := by rw [s_X4_wind, if_neg c_1, if_pos c_5, if_neg c_7, if_neg c_8]
          exact k_iret S G hr hlk dX4_wind_76 (by first | (rw [es]; done) | (rw [es]; rfl) | (simp only [es]; done) | (simp only [es]; rfl)) (by first | (rw [es]; done) | (rw [es]; rfl) | (simp only [es]; done) | (simp only [es]; rfl))
      · skip
        refine lv_aload_n hx hb dX4_wind_18 rfl (lv_at hl 0 rfl) ?_
        refine lv_bipush (v := (-2)) hx hb dX4_wind_19 (by decide) ?_
        refine k_callV (n := 1) (As := [.int (-2)]) (rest := []) (st1 := [.int (-2)]) (ws1 := [(y, .inr (4, [.ref nw, .ref ad, .ref pa, .int sn, .ref eA, .long hs])), (nw, .inl (cI, 39, .inl f)), (ad, .inl (cI, 39, .inl g)), (pa, .inl (cI, 195, .inl pf)), (eA, .inl (cI, 3, .inl (upd z 0 ((z 0) + 1))))]) S G (c_X4_error_2 l D cI cS y nw ad pa eA sn hs f g pf z) gX4_wind_X4_error rfl (by decide +kernel) ⟨⟨rfl, rfl⟩, Nat.le_of_ble_eq_true rfl, Nat.le_of_ble_eq_true rfl⟩ [0, 1, 2, 3, 4] (by decide) rfl [y, nw, ad, pa, eA] rfl rfl 0 rfl rfl rfl hl.1 rfl (Nat.le_of_ble_eq_true rfl) ⟨Nat.zero_le _, Nat.zero_le _⟩ dX4_wind_21 rfl rfl (fun H locs G => ?_)
        have es : (s_X4_wind sn f pf z tn q) = ((-2), sn, f, pf, (upd z 0 ((z 0) + 1))) := by rw [s_X4_wind, if_neg c_1, if_pos c_5, if_pos c_7]
        exact k_iret S G hr hlk dX4_wind_24 (by first | (rw [es]; done) | (rw [es]; rfl) | (simp only [es]; done) | (simp only [es]; rfl)) (by first | (rw [es]; done) | (rw [es]; rfl) | (simp only [es]; done) | (simp only [es]; rfl))
    · skip
      refine lv_iload_n hx hb dX4_wind_0 rfl (lv_at hl 1 rfl) ?_
      refine k_callS (n := 1) (As := [.int tn]) (rest := []) (st1 := [.int 0]) (ws1 := [(y, .inr (4, [.ref nw, .ref ad, .ref pa, .int sn, .ref eA, .long hs])), (nw, .inl (cI, 39, .inl f)), (ad, .inl (cI, 39, .inl g)), (pa, .inl (cI, 195, .inl pf)), (eA, .inl (cI, 3, .inl z))]) S G (c_X4_isTrain l D cI cS tn) gX4_wind_X4_isTrain rfl (by decide +kernel) ⟨⟨rfl, rfl⟩, Nat.le_of_ble_eq_true rfl, Nat.le_of_ble_eq_true rfl⟩ [] (by decide) rfl [] rfl rfl rfl hl.1 rfl (Nat.le_of_ble_eq_true rfl) ⟨Nat.zero_le _, Nat.zero_le _⟩ dX4_wind_1 (congrArg (fun z => Value.int z :: []) (X4_isTrain_else c_1 c_5)) rfl (fun H locs G => ?_)
      refine lv_if_eq (tgt := 18) hx hb dX4_wind_4 (by decide) (fun c_9 => ?_) (fun c_9 => absurd c_9 (by decide))
      refine lv_aload_n hx hb dX4_wind_18 rfl (lv_at hl 0 rfl) ?_
      refine lv_bipush (v := (-2)) hx hb dX4_wind_19 (by decide) ?_
      refine k_callV (n := 1) (As := [.int (-2)]) (rest := []) (st1 := [.int (-2)]) (ws1 := [(y, .inr (4, [.ref nw, .ref ad, .ref pa, .int sn, .ref eA, .long hs])), (nw, .inl (cI, 39, .inl f)), (ad, .inl (cI, 39, .inl g)), (pa, .inl (cI, 195, .inl pf)), (eA, .inl (cI, 3, .inl (upd z 0 ((z 0) + 1))))]) S G (c_X4_error_2 l D cI cS y nw ad pa eA sn hs f g pf z) gX4_wind_X4_error rfl (by decide +kernel) ⟨⟨rfl, rfl⟩, Nat.le_of_ble_eq_true rfl, Nat.le_of_ble_eq_true rfl⟩ [0, 1, 2, 3, 4] (by decide) rfl [y, nw, ad, pa, eA] rfl rfl 0 rfl rfl rfl hl.1 rfl (Nat.le_of_ble_eq_true rfl) ⟨Nat.zero_le _, Nat.zero_le _⟩ dX4_wind_21 rfl rfl (fun H locs G => ?_)
      have es : (s_X4_wind sn f pf z tn q) = ((-2), sn, f, pf, (upd z 0 ((z 0) + 1))) := by rw [s_X4_wind, if_neg c_1, if_neg c_5]
      exact k_iret S G hr hlk dX4_wind_24 (by first | (rw [es]; done) | (rw [es]; rfl) | (simp only [es]; done) | (simp only [es]; rfl)) (by first | (rw [es]; done) | (rw [es]; rfl) | (simp only [es]; done) | (simp only [es]; rfl))
def s_X4_setHands (sn : Int32) (f : Nat → Int32) (pf : Nat → Int32) (z : Nat → Int32) (q : Int32) : Int32 × Int32 × (Nat → Int32) × (Nat → Int32) × (Nat → Int32) := (if (s_X4_in q 0 1439) = 0 then ((-2), sn, f, pf, (upd z 0 ((z 0) + 1))) else ((f 0), (sSc sn), (upd f 0 q), (mSp sn pf f), z))
set_option maxHeartbeats 4000000 in
set_option maxRecDepth 100000 in
theorem c_X4_setHands (l : Launch) (D : va_G) (cI cS : ClassId) (y : Nat) (nw : Nat) (ad : Nat) (pa : Nat) (eA : Nat) (sn : Int32) (hs : Int64) (f : Nat → Int32) (g : Nat → Int32) (pf : Nat → Int32) (z : Nat → Int32) (q : Int32) (hsn : scOk sn) : Ct l yX4_setHands wsX4_setHands ({ frames := 2, cells := 0, slots := 0, locals := 71 }) D (tyL cI cS) [.ref y, .int q] [(y, .inr (4, [.ref nw, .ref ad, .ref pa, .int sn, .ref eA, .long hs])), (nw, .inl (cI, 39, .inl f)), (ad, .inl (cI, 39, .inl g)), (pa, .inl (cI, 195, .inl pf)), (eA, .inl (cI, 3, .inl z))] (some (.int ((s_X4_setHands sn f pf z q).1))) [(y, .inr (4, [.ref nw, .ref ad, .ref pa, .int ((s_X4_setHands sn f pf z q).2.1), .ref eA, .long hs])), (nw, .inl (cI, 39, .inl ((s_X4_setHands sn f pf z q).2.2.1))), (ad, .inl (cI, 39, .inl g)), (pa, .inl (cI, 195, .inl ((s_X4_setHands sn f pf z q).2.2.2.1))), (eA, .inl (cI, 3, .inl ((s_X4_setHands sn f pf z q).2.2.2.2)))] := by
  refine Ct.of (cc := cX4_setHands) (maxL := 3) (ret := (some .int)) (by decide) rfl (Nat.le_of_ble_eq_true rfl) ?_
  intro p ev s m args below meth c A ls S hr hlk G hl
  have hx := S.1
  have hb := S.2.1
  have hown : s.vm.findClass RX4 = some m.cls := S.2.2.2.1
  have hts := S.2.2.2.2
  have hl : lv_has ls 3 [(0, .ref y), (1, .int q)] := hl
  have hiX4 : ∀ w ∈ wsX40, w ∈ wsX4_setHands := by decide +kernel
  have hf7 := hts (.fieldLink RX4 7 "StrikingWorkModel" "now" "[I") (by decide +kernel)
  refine lv_iload_n hx hb dX4_setHands_0 rfl (lv_at hl 1 rfl) ?_
  refine lv_iconst (v := 0) hx hb dX4_setHands_1 (by decide) ?_
  refine lv_sipush (v := 1439) hx hb dX4_setHands_2 (by decide) ?_
  refine k_callS (n := 3) (As := [.int q, .int 0, .int 1439]) (rest := []) (st1 := [.int (s_X4_in q 0 1439)]) (ws1 := [(y, .inr (4, [.ref nw, .ref ad, .ref pa, .int sn, .ref eA, .long hs])), (nw, .inl (cI, 39, .inl f)), (ad, .inl (cI, 39, .inl g)), (pa, .inl (cI, 195, .inl pf)), (eA, .inl (cI, 3, .inl z))]) S G (c_X4_in l D cI cS q 0 1439) gX4_setHands_X4_in rfl (by decide +kernel) ⟨⟨rfl, rfl⟩, Nat.le_of_ble_eq_true rfl, Nat.le_of_ble_eq_true rfl⟩ [] (by decide) rfl [] rfl rfl rfl hl.1 rfl (Nat.le_of_ble_eq_true rfl) ⟨Nat.zero_le _, Nat.zero_le _⟩ dX4_setHands_5 rfl rfl (fun H locs G => ?_)
  refine lv_if_ne (tgt := 18) hx hb dX4_setHands_8 (by decide) (fun c_1 => ?_) (fun c_1 => ?_)
  · skip
    refine lv_aload_n hx hb dX4_setHands_18 rfl (lv_at hl 0 rfl) ?_
    refine k_callV (n := 0) (As := []) (rest := []) (st1 := []) (ws1 := [(y, .inr (4, [.ref nw, .ref ad, .ref pa, .int (sSc sn), .ref eA, .long hs])), (nw, .inl (cI, 39, .inl f)), (ad, .inl (cI, 39, .inl g)), (pa, .inl (cI, 195, .inl (mSp sn pf f))), (eA, .inl (cI, 3, .inl z))]) S G (c_X4_save l D cI cS y nw ad pa eA sn hs f g pf z hsn) gX4_setHands_X4_save rfl (by decide +kernel) ⟨⟨rfl, rfl⟩, Nat.le_of_ble_eq_true rfl, Nat.le_of_ble_eq_true rfl⟩ [0, 1, 2, 3, 4] (by decide) rfl [y, nw, ad, pa, eA] rfl rfl 0 rfl rfl rfl hl.1 rfl (Nat.le_of_ble_eq_true rfl) ⟨Nat.zero_le _, Nat.zero_le _⟩ dX4_setHands_19 rfl rfl (fun H locs G => ?_)
    refine lv_aload_n hx hb dX4_setHands_22 rfl (lv_at hl 0 rfl) ?_
    refine k_get (v := .ref nw) S G 0 rfl rfl hiX4 0 (by decide) hf7 rfl dX4_setHands_23 ?_
    refine lv_iconst (v := 0) hx hb dX4_setHands_26 (by decide) ?_
    refine k_iald (x := (f 0)) S G 1 0 rfl rfl (by unfold vp_in; decide) rfl dX4_setHands_27 ?_
    refine lv_istore_n (lv' := [(2, .int (f 0)), (0, .ref y), (1, .int q)]) hx hb dX4_setHands_28 rfl hl (by decide) rfl (fun ls hl => ?_)
    refine lv_aload_n hx hb dX4_setHands_29 rfl (lv_at hl 1 rfl) ?_
    refine k_get (v := .ref nw) S G 0 rfl rfl hiX4 0 (by decide) hf7 rfl dX4_setHands_30 ?_
    refine lv_iconst (v := 0) hx hb dX4_setHands_33 (by decide) ?_
    refine lv_iload_n hx hb dX4_setHands_34 rfl (lv_at hl 2 rfl) ?_
    refine k_iast (ws1 := [(y, .inr (4, [.ref nw, .ref ad, .ref pa, .int (sSc sn), .ref eA, .long hs])), (nw, .inl (cI, 39, .inl (upd f 0 q))), (ad, .inl (cI, 39, .inl g)), (pa, .inl (cI, 195, .inl (mSp sn pf f))), (eA, .inl (cI, 3, .inl z))]) S G 1 0 rfl rfl (by unfold vp_in; decide) dX4_setHands_35 rfl (fun H locs G => ?_)
    refine lv_iload_n hx hb dX4_setHands_36 rfl (lv_at hl 0 rfl) ?_
    have es : (s_X4_setHands sn f pf z q) = ((f 0), (sSc sn), (upd f 0 q), (mSp sn pf f), z) := by rw [s_X4_setHands, if_neg c_1]
    exact k_iret S G hr hlk dX4_setHands_37 (by first | (rw [es]; done) | (rw [es]; rfl) | (simp only [es]; done) | (simp only [es]; rfl)) (by first | (rw [es]; done) | (rw [es]; rfl) | (simp only [es]; done) | (simp only [es]; rfl))
  · skip
    refine lv_aload_n hx hb dX4_setHands_11 rfl (lv_at hl 0 rfl) ?_
    refine lv_bipush (v := (-2)) hx hb dX4_setHands_12 (by decide) ?_
    refine k_callV (n := 1) (As := [.int (-2)]) (rest := []) (st1 := [.int (-2)]) (ws1 := [(y, .inr (4, [.ref nw, .ref ad, .ref pa, .int sn, .ref eA, .long hs])), (nw, .inl (cI, 39, .inl f)), (ad, .inl (cI, 39, .inl g)), (pa, .inl (cI, 195, .inl pf)), (eA, .inl (cI, 3, .inl (upd z 0 ((z 0) + 1))))]) S G (c_X4_error_2 l D cI cS y nw ad pa eA sn hs f g pf z) gX4_setHands_X4_error rfl (by decide +kernel) ⟨⟨rfl, rfl⟩, Nat.le_of_ble_eq_true rfl, Nat.le_of_ble_eq_true rfl⟩ [0, 1, 2, 3, 4] (by decide) rfl [y, nw, ad, pa, eA] rfl rfl 0 rfl rfl rfl hl.1 rfl (Nat.le_of_ble_eq_true rfl) ⟨Nat.zero_le _, Nat.zero_le _⟩ dX4_setHands_14 rfl rfl (fun H locs G => ?_)
    have es : (s_X4_setHands sn f pf z q) = ((-2), sn, f, pf, (upd z 0 ((z 0) + 1))) := by rw [s_X4_setHands, if_pos c_1]
    exact k_iret S G hr hlk dX4_setHands_17 (by first | (rw [es]; done) | (rw [es]; rfl) | (simp only [es]; done) | (simp only [es]; rfl)) (by first | (rw [es]; done) | (rw [es]; rfl) | (simp only [es]; done) | (simp only [es]; rfl))
def s_X4_trip (sn : Int32) (f : Nat → Int32) (pf : Nat → Int32) (z : Nat → Int32) (tn : Int32) : Int32 × Int32 × (Nat → Int32) × (Nat → Int32) × (Nat → Int32) := (if tn = 0 then (if (s_X4_blowsOf_0 f (s_X4_dueAfter_0 (f 0))) = 0 then ((-3), sn, f, pf, (upd z 1 ((z 1) + 1))) else (if (s_X4_blowsOf_0 f (s_X4_dueAfter_0 (f 0))) ≤ (f 6) then ((s_X4_strike_0 f (s_X4_blowsOf_0 f (s_X4_dueAfter_0 (f 0))) 0).1, (sSc sn), (s_X4_strike_0 f (s_X4_blowsOf_0 f (s_X4_dueAfter_0 (f 0))) 0).2, (mSp sn pf f), z) else ((-3), sn, f, pf, (upd z 1 ((z 1) + 1))))) else (if tn = 1 then (if (s_X4_blowsOf_1 f (s_X4_dueAfter_1 (f 0))) = 0 then ((-3), sn, f, pf, (upd z 1 ((z 1) + 1))) else (if (s_X4_blowsOf_1 f (s_X4_dueAfter_1 (f 0))) ≤ (f 11) then ((s_X4_strike_1 f (s_X4_blowsOf_1 f (s_X4_dueAfter_1 (f 0))) 0).1, (sSc sn), (s_X4_strike_1 f (s_X4_blowsOf_1 f (s_X4_dueAfter_1 (f 0))) 0).2, (mSp sn pf f), z) else ((-3), sn, f, pf, (upd z 1 ((z 1) + 1))))) else ((-2), sn, f, pf, (upd z 0 ((z 0) + 1)))))
set_option maxHeartbeats 4000000 in
set_option maxRecDepth 100000 in
theorem c_X4_trip (l : Launch) (D : va_G) (cI cS : ClassId) (y : Nat) (nw : Nat) (ad : Nat) (pa : Nat) (eA : Nat) (sn : Int32) (hs : Int64) (f : Nat → Int32) (g : Nat → Int32) (pf : Nat → Int32) (z : Nat → Int32) (tn : Int32) (hsn : scOk sn) : Ct l yX4_trip wsX4_trip ({ frames := 2, cells := 0, slots := 0, locals := 71 }) D (tyL cI cS) [.ref y, .int tn] [(y, .inr (4, [.ref nw, .ref ad, .ref pa, .int sn, .ref eA, .long hs])), (nw, .inl (cI, 39, .inl f)), (ad, .inl (cI, 39, .inl g)), (pa, .inl (cI, 195, .inl pf)), (eA, .inl (cI, 3, .inl z))] (some (.int ((s_X4_trip sn f pf z tn).1))) [(y, .inr (4, [.ref nw, .ref ad, .ref pa, .int ((s_X4_trip sn f pf z tn).2.1), .ref eA, .long hs])), (nw, .inl (cI, 39, .inl ((s_X4_trip sn f pf z tn).2.2.1))), (ad, .inl (cI, 39, .inl g)), (pa, .inl (cI, 195, .inl ((s_X4_trip sn f pf z tn).2.2.2.1))), (eA, .inl (cI, 3, .inl ((s_X4_trip sn f pf z tn).2.2.2.2)))] := by
  refine Ct.of (cc := cX4_trip) (maxL := 3) (ret := (some .int)) (by decide) rfl (Nat.le_of_ble_eq_true rfl) ?_
  intro p ev s m args below meth c A ls S hr hlk G hl
  have hx := S.1
  have hb := S.2.1
  have hown : s.vm.findClass RX4 = some m.cls := S.2.2.2.1
  have hts := S.2.2.2.2
  have hl : lv_has ls 3 [(0, .ref y), (1, .int tn)] := hl
  have hiX4 : ∀ w ∈ wsX40, w ∈ wsX4_trip := by decide +kernel
  have hf7 := hts (.fieldLink RX4 7 "StrikingWorkModel" "now" "[I") (by decide +kernel)
  by_cases c_1 : tn = 0
  · skip
    have hl : lv_has ls 3 [(0, .ref y), (1, .int 0)] := by rw [c_1] at hl; exact hl
    refine lv_iload_n hx hb dX4_trip_0 rfl (lv_at hl 1 rfl) ?_
    refine k_callS (n := 1) (As := [.int 0]) (rest := []) (st1 := [.int 1]) (ws1 := [(y, .inr (4, [.ref nw, .ref ad, .ref pa, .int sn, .ref eA, .long hs])), (nw, .inl (cI, 39, .inl f)), (ad, .inl (cI, 39, .inl g)), (pa, .inl (cI, 195, .inl pf)), (eA, .inl (cI, 3, .inl z))]) S G (c_X4_isTrain l D cI cS 0) gX4_trip_X4_isTrain rfl (by decide +kernel) ⟨⟨rfl, rfl⟩, Nat.le_of_ble_eq_true rfl, Nat.le_of_ble_eq_true rfl⟩ [] (by decide) rfl [] rfl rfl rfl hl.1 rfl (Nat.le_of_ble_eq_true rfl) ⟨Nat.zero_le _, Nat.zero_le _⟩ dX4_trip_1 (congrArg (fun z => Value.int z :: []) (by decide : (s_X4_isTrain 0) = 1)) rfl (fun H locs G => ?_)
    refine lv_if_ne (tgt := 14) hx hb dX4_trip_4 (by decide) (fun c_2 => ?_) (fun c_2 => absurd c_2 (by decide))
    refine lv_aload_n hx hb dX4_trip_14 rfl (lv_at hl 0 rfl) ?_
    refine lv_iload_n hx hb dX4_trip_15 rfl (lv_at hl 1 rfl) ?_
    refine lv_iload_n hx hb dX4_trip_16 rfl (lv_at hl 1 rfl) ?_
    refine lv_aload_n hx hb dX4_trip_17 rfl (lv_at hl 0 rfl) ?_
    refine k_get (v := .ref nw) S G 0 rfl rfl hiX4 0 (by decide) hf7 rfl dX4_trip_18 ?_
    refine lv_iconst (v := 0) hx hb dX4_trip_21 (by decide) ?_
    refine k_iald (x := (f 0)) S G 1 0 rfl rfl (by unfold vp_in; decide) rfl dX4_trip_22 ?_
    refine k_callS (n := 2) (As := [.int 0, .int (f 0)]) (rest := [.int 0, .ref y]) (st1 := [.int (s_X4_dueAfter_0 (f 0)), .int 0, .ref y]) (ws1 := [(y, .inr (4, [.ref nw, .ref ad, .ref pa, .int sn, .ref eA, .long hs])), (nw, .inl (cI, 39, .inl f)), (ad, .inl (cI, 39, .inl g)), (pa, .inl (cI, 195, .inl pf)), (eA, .inl (cI, 3, .inl z))]) S G (c_X4_dueAfter_0 l D cI cS (f 0)) gX4_trip_X4_dueAfter rfl (by decide +kernel) ⟨⟨rfl, rfl⟩, Nat.le_of_ble_eq_true rfl, Nat.le_of_ble_eq_true rfl⟩ [] (by decide) rfl [] rfl rfl rfl hl.1 rfl (Nat.le_of_ble_eq_true rfl) ⟨Nat.zero_le _, Nat.zero_le _⟩ dX4_trip_23 rfl rfl (fun H locs G => ?_)
    refine k_callV (n := 2) (As := [.int 0, .int (s_X4_dueAfter_0 (f 0))]) (rest := []) (st1 := [.int (s_X4_blowsOf_0 f (s_X4_dueAfter_0 (f 0)))]) (ws1 := [(y, .inr (4, [.ref nw, .ref ad, .ref pa, .int sn, .ref eA, .long hs])), (nw, .inl (cI, 39, .inl f)), (ad, .inl (cI, 39, .inl g)), (pa, .inl (cI, 195, .inl pf)), (eA, .inl (cI, 3, .inl z))]) S G (c_X4_blowsOf_0 l D cI cS y nw ad pa eA sn hs f g pf z (s_X4_dueAfter_0 (f 0))) gX4_trip_X4_blowsOf rfl (by decide +kernel) ⟨⟨rfl, rfl⟩, Nat.le_of_ble_eq_true rfl, Nat.le_of_ble_eq_true rfl⟩ [0, 1, 2, 3, 4] (by decide) rfl [y, nw, ad, pa, eA] rfl rfl 0 rfl rfl rfl hl.1 rfl (Nat.le_of_ble_eq_true rfl) ⟨Nat.zero_le _, Nat.zero_le _⟩ dX4_trip_26 rfl rfl (fun H locs G => ?_)
    refine lv_istore_n (lv' := [(2, .int (s_X4_blowsOf_0 f (s_X4_dueAfter_0 (f 0)))), (0, .ref y), (1, .int 0)]) hx hb dX4_trip_29 rfl hl (by decide) rfl (fun ls hl => ?_)
    refine lv_iload_n hx hb dX4_trip_30 rfl (lv_at hl 0 rfl) ?_
    refine lv_if_eq (tgt := 48) hx hb dX4_trip_31 (by decide) (fun c_3 => ?_) (fun c_3 => ?_)
    · skip
      refine lv_aload_n hx hb dX4_trip_48 rfl (lv_at hl 1 rfl) ?_
      refine lv_bipush (v := (-3)) hx hb dX4_trip_49 (by decide) ?_
      refine k_callV (n := 1) (As := [.int (-3)]) (rest := []) (st1 := [.int (-3)]) (ws1 := [(y, .inr (4, [.ref nw, .ref ad, .ref pa, .int sn, .ref eA, .long hs])), (nw, .inl (cI, 39, .inl f)), (ad, .inl (cI, 39, .inl g)), (pa, .inl (cI, 195, .inl pf)), (eA, .inl (cI, 3, .inl (upd z 1 ((z 1) + 1))))]) S G (c_X4_error_3 l D cI cS y nw ad pa eA sn hs f g pf z) gX4_trip_X4_error rfl (by decide +kernel) ⟨⟨rfl, rfl⟩, Nat.le_of_ble_eq_true rfl, Nat.le_of_ble_eq_true rfl⟩ [0, 1, 2, 3, 4] (by decide) rfl [y, nw, ad, pa, eA] rfl rfl 0 rfl rfl rfl hl.1 rfl (Nat.le_of_ble_eq_true rfl) ⟨Nat.zero_le _, Nat.zero_le _⟩ dX4_trip_51 rfl rfl (fun H locs G => ?_)
      have es : (s_X4_trip sn f pf z tn) = ((-3), sn, f, pf, (upd z 1 ((z 1) + 1))) := by rw [s_X4_trip, if_pos c_1, if_pos c_3]
      exact k_iret S G hr hlk dX4_trip_54 (by first | (rw [es]; done) | (rw [es]; rfl) | (simp only [es]; done) | (simp only [es]; rfl)) (by first | (rw [es]; done) | (rw [es]; rfl) | (simp only [es]; done) | (simp only [es]; rfl))
    · skip
      refine lv_aload_n hx hb dX4_trip_34 rfl (lv_at hl 1 rfl) ?_
      refine k_get (v := .ref nw) S G 0 rfl rfl hiX4 0 (by decide) hf7 rfl dX4_trip_35 ?_
      refine lv_iload_n hx hb dX4_trip_38 rfl (lv_at hl 2 rfl) ?_
      refine lv_iconst (v := 2) hx hb dX4_trip_39 (by decide) ?_
      refine k_callS (n := 2) (As := [.int 0, .int 2]) (rest := [.ref nw]) (st1 := [.int 6, .ref nw]) (ws1 := [(y, .inr (4, [.ref nw, .ref ad, .ref pa, .int sn, .ref eA, .long hs])), (nw, .inl (cI, 39, .inl f)), (ad, .inl (cI, 39, .inl g)), (pa, .inl (cI, 195, .inl pf)), (eA, .inl (cI, 3, .inl z))]) S G (c_X4_at l D cI cS 0 2) gX4_trip_X4_at rfl (by decide +kernel) ⟨⟨rfl, rfl⟩, Nat.le_of_ble_eq_true rfl, Nat.le_of_ble_eq_true rfl⟩ [] (by decide) rfl [] rfl rfl rfl hl.1 rfl (Nat.le_of_ble_eq_true rfl) ⟨Nat.zero_le _, Nat.zero_le _⟩ dX4_trip_40 (congrArg (fun z => Value.int z :: [.ref nw]) (by decide : (s_X4_at 0 2) = 6)) rfl (fun H locs G => ?_)
      refine k_iald (x := (f 6)) S G 1 0 rfl rfl (by unfold vp_in; decide) rfl dX4_trip_43 ?_
      refine lv_iload_n hx hb dX4_trip_44 rfl (lv_at hl 0 rfl) ?_
      refine lv_icmp_ge (tgt := 55) hx hb dX4_trip_45 (by decide) (fun c_4 => ?_) (fun c_4 => ?_)
      · skip
        refine lv_aload_n hx hb dX4_trip_55 rfl (lv_at hl 1 rfl) ?_
        refine k_callV (n := 0) (As := []) (rest := []) (st1 := []) (ws1 := [(y, .inr (4, [.ref nw, .ref ad, .ref pa, .int (sSc sn), .ref eA, .long hs])), (nw, .inl (cI, 39, .inl f)), (ad, .inl (cI, 39, .inl g)), (pa, .inl (cI, 195, .inl (mSp sn pf f))), (eA, .inl (cI, 3, .inl z))]) S G (c_X4_save l D cI cS y nw ad pa eA sn hs f g pf z hsn) gX4_trip_X4_save rfl (by decide +kernel) ⟨⟨rfl, rfl⟩, Nat.le_of_ble_eq_true rfl, Nat.le_of_ble_eq_true rfl⟩ [0, 1, 2, 3, 4] (by decide) rfl [y, nw, ad, pa, eA] rfl rfl 0 rfl rfl rfl hl.1 rfl (Nat.le_of_ble_eq_true rfl) ⟨Nat.zero_le _, Nat.zero_le _⟩ dX4_trip_56 rfl rfl (fun H locs G => ?_)
        refine lv_aload_n hx hb dX4_trip_59 rfl (lv_at hl 1 rfl) ?_
        refine lv_iload_n hx hb dX4_trip_60 rfl (lv_at hl 2 rfl) ?_
        refine lv_iload_n hx hb dX4_trip_61 rfl (lv_at hl 0 rfl) ?_
        refine lv_iconst (v := 0) hx hb dX4_trip_62 (by decide) ?_
        refine k_callV (n := 3) (As := [.int 0, .int (s_X4_blowsOf_0 f (s_X4_dueAfter_0 (f 0))), .int 0]) (rest := []) (st1 := [.int ((s_X4_strike_0 f (s_X4_blowsOf_0 f (s_X4_dueAfter_0 (f 0))) 0).1)]) (ws1 := [(y, .inr (4, [.ref nw, .ref ad, .ref pa, .int (sSc sn), .ref eA, .long hs])), (nw, .inl (cI, 39, .inl ((s_X4_strike_0 f (s_X4_blowsOf_0 f (s_X4_dueAfter_0 (f 0))) 0).2))), (ad, .inl (cI, 39, .inl g)), (pa, .inl (cI, 195, .inl (mSp sn pf f))), (eA, .inl (cI, 3, .inl z))]) S G (c_X4_strike_0 l D cI cS y nw ad pa eA (sSc sn) hs f g (mSp sn pf f) z (s_X4_blowsOf_0 f (s_X4_dueAfter_0 (f 0))) 0) gX4_trip_X4_strike rfl (by decide +kernel) ⟨⟨rfl, rfl⟩, Nat.le_of_ble_eq_true rfl, Nat.le_of_ble_eq_true rfl⟩ [0, 1, 2, 3, 4] (by decide) rfl [y, nw, ad, pa, eA] rfl rfl 0 rfl rfl rfl hl.1 rfl (Nat.le_of_ble_eq_true rfl) ⟨Nat.zero_le _, Nat.zero_le _⟩ dX4_trip_63 rfl rfl (fun H locs G => ?_)
        generalize hu1 : (s_X4_strike_0 f (s_X4_blowsOf_0 f (s_X4_dueAfter_0 (f 0))) 0) = u1 at G ⊢
        have es : (s_X4_trip sn f pf z tn) = (u1.1, (sSc sn), u1.2, (mSp sn pf f), z) := by rw [s_X4_trip, hu1, if_pos c_1, if_neg c_3, if_pos c_4]
        exact k_iret S G hr hlk dX4_trip_66 (by first | (rw [es]; done) | (rw [es]; rfl) | (simp only [es]; done) | (simp only [es]; rfl)) (by first | (rw [es]; done) | (rw [es]; rfl) | (simp only [es]; done) | (simp only [es]; rfl))
      · skip
        refine lv_aload_n hx hb dX4_trip_48 rfl (lv_at hl 1 rfl) ?_
        refine lv_bipush (v := (-3)) hx hb dX4_trip_49 (by decide) ?_
        refine k_callV (n := 1) (As := [.int (-3)]) (rest := []) (st1 := [.int (-3)]) (ws1 := [(y, .inr (4, [.ref nw, .ref ad, .ref pa, .int sn, .ref eA, .long hs])), (nw, .inl (cI, 39, .inl f)), (ad, .inl (cI, 39, .inl g)), (pa, .inl (cI, 195, .inl pf)), (eA, .inl (cI, 3, .inl (upd z 1 ((z 1) + 1))))]) S G (c_X4_error_3 l D cI cS y nw ad pa eA sn hs f g pf z) gX4_trip_X4_error rfl (by decide +kernel) ⟨⟨rfl, rfl⟩, Nat.le_of_ble_eq_true rfl, Nat.le_of_ble_eq_true rfl⟩ [0, 1, 2, 3, 4] (by decide) rfl [y, nw, ad, pa, eA] rfl rfl 0 rfl rfl rfl hl.1 rfl (Nat.le_of_ble_eq_true rfl) ⟨Nat.zero_le _, Nat.zero_le _⟩ dX4_trip_51 rfl rfl (fun H locs G => ?_)
        have es : (s_X4_trip sn f pf z tn) = ((-3), sn, f, pf, (upd z 1 ((z 1) + 1))) := by rw [s_X4_trip, if_pos c_1, if_neg c_3, if_neg c_4]
        exact k_iret S G hr hlk dX4_trip_54 (by first | (rw [es]; done) | (rw [es]; rfl) | (simp only [es]; done) | (simp only [es]; rfl)) (by first | (rw [es]; done) | (rw [es]; rfl) | (simp only [es]; done) | (simp only [es]; rfl))
  · skip
    by_cases c_5 : tn = 1
    · skip
      have hl : lv_has ls 3 [(0, .ref y), (1, .int 1)] := by rw [c_5] at hl; exact hl
      refine lv_iload_n hx hb dX4_trip_0 rfl (lv_at hl 1 rfl) ?_
      refine k_callS (n := 1) (As := [.int 1]) (rest := []) (st1 := [.int 1]) (ws1 := [(y, .inr (4, [.ref nw, .ref ad, .ref pa, .int sn, .ref eA, .long hs])), (nw, .inl (cI, 39, .inl f)), (ad, .inl (cI, 39, .inl g)), (pa, .inl (cI, 195, .inl pf)), (eA, .inl (cI, 3, .inl z))]) S G (c_X4_isTrain l D cI cS 1) gX4_trip_X4_isTrain rfl (by decide +kernel) ⟨⟨rfl, rfl⟩, Nat.le_of_ble_eq_true rfl, Nat.le_of_ble_eq_true rfl⟩ [] (by decide) rfl [] rfl rfl rfl hl.1 rfl (Nat.le_of_ble_eq_true rfl) ⟨Nat.zero_le _, Nat.zero_le _⟩ dX4_trip_1 (congrArg (fun z => Value.int z :: []) (by decide : (s_X4_isTrain 1) = 1)) rfl (fun H locs G => ?_)
      refine lv_if_ne (tgt := 14) hx hb dX4_trip_4 (by decide) (fun c_6 => ?_) (fun c_6 => absurd c_6 (by decide))
      refine lv_aload_n hx hb dX4_trip_14 rfl (lv_at hl 0 rfl) ?_
      refine lv_iload_n hx hb dX4_trip_15 rfl (lv_at hl 1 rfl) ?_
      refine lv_iload_n hx hb dX4_trip_16 rfl (lv_at hl 1 rfl) ?_
      refine lv_aload_n hx hb dX4_trip_17 rfl (lv_at hl 0 rfl) ?_
      refine k_get (v := .ref nw) S G 0 rfl rfl hiX4 0 (by decide) hf7 rfl dX4_trip_18 ?_
      refine lv_iconst (v := 0) hx hb dX4_trip_21 (by decide) ?_
      refine k_iald (x := (f 0)) S G 1 0 rfl rfl (by unfold vp_in; decide) rfl dX4_trip_22 ?_
      refine k_callS (n := 2) (As := [.int 1, .int (f 0)]) (rest := [.int 1, .ref y]) (st1 := [.int (s_X4_dueAfter_1 (f 0)), .int 1, .ref y]) (ws1 := [(y, .inr (4, [.ref nw, .ref ad, .ref pa, .int sn, .ref eA, .long hs])), (nw, .inl (cI, 39, .inl f)), (ad, .inl (cI, 39, .inl g)), (pa, .inl (cI, 195, .inl pf)), (eA, .inl (cI, 3, .inl z))]) S G (c_X4_dueAfter_1 l D cI cS (f 0)) gX4_trip_X4_dueAfter rfl (by decide +kernel) ⟨⟨rfl, rfl⟩, Nat.le_of_ble_eq_true rfl, Nat.le_of_ble_eq_true rfl⟩ [] (by decide) rfl [] rfl rfl rfl hl.1 rfl (Nat.le_of_ble_eq_true rfl) ⟨Nat.zero_le _, Nat.zero_le _⟩ dX4_trip_23 rfl rfl (fun H locs G => ?_)
      refine k_callV (n := 2) (As := [.int 1, .int (s_X4_dueAfter_1 (f 0))]) (rest := []) (st1 := [.int (s_X4_blowsOf_1 f (s_X4_dueAfter_1 (f 0)))]) (ws1 := [(y, .inr (4, [.ref nw, .ref ad, .ref pa, .int sn, .ref eA, .long hs])), (nw, .inl (cI, 39, .inl f)), (ad, .inl (cI, 39, .inl g)), (pa, .inl (cI, 195, .inl pf)), (eA, .inl (cI, 3, .inl z))]) S G (c_X4_blowsOf_1 l D cI cS y nw ad pa eA sn hs f g pf z (s_X4_dueAfter_1 (f 0))) gX4_trip_X4_blowsOf rfl (by decide +kernel) ⟨⟨rfl, rfl⟩, Nat.le_of_ble_eq_true rfl, Nat.le_of_ble_eq_true rfl⟩ [0, 1, 2, 3, 4] (by decide) rfl [y, nw, ad, pa, eA] rfl rfl 0 rfl rfl rfl hl.1 rfl (Nat.le_of_ble_eq_true rfl) ⟨Nat.zero_le _, Nat.zero_le _⟩ dX4_trip_26 rfl rfl (fun H locs G => ?_)
      refine lv_istore_n (lv' := [(2, .int (s_X4_blowsOf_1 f (s_X4_dueAfter_1 (f 0)))), (0, .ref y), (1, .int 1)]) hx hb dX4_trip_29 rfl hl (by decide) rfl (fun ls hl => ?_)
      refine lv_iload_n hx hb dX4_trip_30 rfl (lv_at hl 0 rfl) ?_
      refine lv_if_eq (tgt := 48) hx hb dX4_trip_31 (by decide) (fun c_7 => ?_) (fun c_7 => ?_)
      · skip
        refine lv_aload_n hx hb dX4_trip_48 rfl (lv_at hl 1 rfl) ?_
        refine lv_bipush (v := (-3)) hx hb dX4_trip_49 (by decide) ?_
        refine k_callV (n := 1) (As := [.int (-3)]) (rest := []) (st1 := [.int (-3)]) (ws1 := [(y, .inr (4, [.ref nw, .ref ad, .ref pa, .int sn, .ref eA, .long hs])), (nw, .inl (cI, 39, .inl f)), (ad, .inl (cI, 39, .inl g)), (pa, .inl (cI, 195, .inl pf)), (eA, .inl (cI, 3, .inl (upd z 1 ((z 1) + 1))))]) S G (c_X4_error_3 l D cI cS y nw ad pa eA sn hs f g pf z) gX4_trip_X4_error rfl (by decide +kernel) ⟨⟨rfl, rfl⟩, Nat.le_of_ble_eq_true rfl, Nat.le_of_ble_eq_true rfl⟩ [0, 1, 2, 3, 4] (by decide) rfl [y, nw, ad, pa, eA] rfl rfl 0 rfl rfl rfl hl.1 rfl (Nat.le_of_ble_eq_true rfl) ⟨Nat.zero_le _, Nat.zero_le _⟩ dX4_trip_51 rfl rfl (fun H locs G => ?_)
        have es : (s_X4_trip sn f pf z tn) = ((-3), sn, f, pf, (upd z 1 ((z 1) + 1))) := by rw [s_X4_trip, if_neg c_1, if_pos c_5, if_pos c_7]
        exact k_iret S G hr hlk dX4_trip_54 (by first | (rw [es]; done) | (rw [es]; rfl) | (simp only [es]; done) | (simp only [es]; rfl)) (by first | (rw [es]; done) | (rw [es]; rfl) | (simp only [es]; done) | (simp only [es]; rfl))
      · skip
        refine lv_aload_n hx hb dX4_trip_34 rfl (lv_at hl 1 rfl) ?_
        refine k_get (v := .ref nw) S G 0 rfl rfl hiX4 0 (by decide) hf7 rfl dX4_trip_35 ?_
        refine lv_iload_n hx hb dX4_trip_38 rfl (lv_at hl 2 rfl) ?_
        refine lv_iconst (v := 2) hx hb dX4_trip_39 (by decide) ?_
        refine k_callS (n := 2) (As := [.int 1, .int 2]) (rest := [.ref nw]) (st1 := [.int 11, .ref nw]) (ws1 := [(y, .inr (4, [.ref nw, .ref ad, .ref pa, .int sn, .ref eA, .long hs])), (nw, .inl (cI, 39, .inl f)), (ad, .inl (cI, 39, .inl g)), (pa, .inl (cI, 195, .inl pf)), (eA, .inl (cI, 3, .inl z))]) S G (c_X4_at l D cI cS 1 2) gX4_trip_X4_at rfl (by decide +kernel) ⟨⟨rfl, rfl⟩, Nat.le_of_ble_eq_true rfl, Nat.le_of_ble_eq_true rfl⟩ [] (by decide) rfl [] rfl rfl rfl hl.1 rfl (Nat.le_of_ble_eq_true rfl) ⟨Nat.zero_le _, Nat.zero_le _⟩ dX4_trip_40 (congrArg (fun z => Value.int z :: [.ref nw]) (by decide : (s_X4_at 1 2) = 11)) rfl (fun H locs G => ?_)
        refine k_iald (x := (f 11)) S G 1 0 rfl rfl (by unfold vp_in; decide) rfl dX4_trip_43 ?_
        refine lv_iload_n hx hb dX4_trip_44 rfl (lv_at hl 0 rfl) ?_
        refine lv_icmp_ge (tgt := 55) hx hb dX4_trip_45 (by decide) (fun c_8 => ?_) (fun c_8 => ?_)
        · skip
          refine lv_aload_n hx hb dX4_trip_55 rfl (lv_at hl 1 rfl) ?_
          refine k_callV (n := 0) (As := []) (rest := []) (st1 := []) (ws1 := [(y, .inr (4, [.ref nw, .ref ad, .ref pa, .int (sSc sn), .ref eA, .long hs])), (nw, .inl (cI, 39, .inl f)), (ad, .inl (cI, 39, .inl g)), (pa, .inl (cI, 195, .inl (mSp sn pf f))), (eA, .inl (cI, 3, .inl z))]) S G (c_X4_save l D cI cS y nw ad pa eA sn hs f g pf z hsn) gX4_trip_X4_save rfl (by decide +kernel) ⟨⟨rfl, rfl⟩, Nat.le_of_ble_eq_true rfl, Nat.le_of_ble_eq_true rfl⟩ [0, 1, 2, 3, 4] (by decide) rfl [y, nw, ad, pa, eA] rfl rfl 0 rfl rfl rfl hl.1 rfl (Nat.le_of_ble_eq_true rfl) ⟨Nat.zero_le _, Nat.zero_le _⟩ dX4_trip_56 rfl rfl (fun H locs G => ?_)
          refine lv_aload_n hx hb dX4_trip_59 rfl (lv_at hl 1 rfl) ?_
          refine lv_iload_n hx hb dX4_trip_60 rfl (lv_at hl 2 rfl) ?_
          refine lv_iload_n hx hb dX4_trip_61 rfl (lv_at hl 0 rfl) ?_
          refine lv_iconst (v := 0) hx hb dX4_trip_62 (by decide) ?_
          refine k_callV (n := 3) (As := [.int 1, .int (s_X4_blowsOf_1 f (s_X4_dueAfter_1 (f 0))), .int 0]) (rest := []) (st1 := [.int ((s_X4_strike_1 f (s_X4_blowsOf_1 f (s_X4_dueAfter_1 (f 0))) 0).1)]) (ws1 := [(y, .inr (4, [.ref nw, .ref ad, .ref pa, .int (sSc sn), .ref eA, .long hs])), (nw, .inl (cI, 39, .inl ((s_X4_strike_1 f (s_X4_blowsOf_1 f (s_X4_dueAfter_1 (f 0))) 0).2))), (ad, .inl (cI, 39, .inl g)), (pa, .inl (cI, 195, .inl (mSp sn pf f))), (eA, .inl (cI, 3, .inl z))]) S G (c_X4_strike_1 l D cI cS y nw ad pa eA (sSc sn) hs f g (mSp sn pf f) z (s_X4_blowsOf_1 f (s_X4_dueAfter_1 (f 0))) 0) gX4_trip_X4_strike rfl (by decide +kernel) ⟨⟨rfl, rfl⟩, Nat.le_of_ble_eq_true rfl, Nat.le_of_ble_eq_true rfl⟩ [0, 1, 2, 3, 4] (by decide) rfl [y, nw, ad, pa, eA] rfl rfl 0 rfl rfl rfl hl.1 rfl (Nat.le_of_ble_eq_true rfl) ⟨Nat.zero_le _, Nat.zero_le _⟩ dX4_trip_63 rfl rfl (fun H locs G => ?_)
          generalize hu2 : (s_X4_strike_1 f (s_X4_blowsOf_1 f (s_X4_dueAfter_1 (f 0))) 0) = u2 at G ⊢
          have es : (s_X4_trip sn f pf z tn) = (u2.1, (sSc sn), u2.2, (mSp sn pf f), z) := by rw [s_X4_trip, hu2, if_neg c_1, if_pos c_5, if_neg c_7, if_pos c_8]
          exact k_iret S G hr hlk dX4_trip_66 (by first | (rw [es]; done) | (rw [es]; rfl) | (simp only [es]; done) | (simp only [es]; rfl)) (by first | (rw [es]; done) | (rw [es]; rfl) | (simp only [es]; done) | (simp only [es]; rfl))
        · skip
          refine lv_aload_n hx hb dX4_trip_48 rfl (lv_at hl 1 rfl) ?_
          refine lv_bipush (v := (-3)) hx hb dX4_trip_49 (by decide) ?_
          refine k_callV (n := 1) (As := [.int (-3)]) (rest := []) (st1 := [.int (-3)]) (ws1 := [(y, .inr (4, [.ref nw, .ref ad, .ref pa, .int sn, .ref eA, .long hs])), (nw, .inl (cI, 39, .inl f)), (ad, .inl (cI, 39, .inl g)), (pa, .inl (cI, 195, .inl pf)), (eA, .inl (cI, 3, .inl (upd z 1 ((z 1) + 1))))]) S G (c_X4_error_3 l D cI cS y nw ad pa eA sn hs f g pf z) gX4_trip_X4_error rfl (by decide +kernel) ⟨⟨rfl, rfl⟩, Nat.le_of_ble_eq_true rfl, Nat.le_of_ble_eq_true rfl⟩ [0, 1, 2, 3, 4] (by decide) rfl [y, nw, ad, pa, eA] rfl rfl 0 rfl rfl rfl hl.1 rfl (Nat.le_of_ble_eq_true rfl) ⟨Nat.zero_le _, Nat.zero_le _⟩ dX4_trip_51 rfl rfl (fun H locs G => ?_)
          have es : (s_X4_trip sn f pf z tn) = ((-3), sn, f, pf, (upd z 1 ((z 1) + 1))) := by rw [s_X4_trip, if_neg c_1, if_pos c_5, if_neg c_7, if_neg c_8]
          exact k_iret S G hr hlk dX4_trip_54 (by first | (rw [es]; done) | (rw [es]; rfl) | (simp only [es]; done) | (simp only [es]; rfl)) (by first | (rw [es]; done) | (rw [es]; rfl) | (simp only [es]; done) | (simp only [es]; rfl))
    · skip
      refine lv_iload_n hx hb dX4_trip_0 rfl (lv_at hl 1 rfl) ?_
      refine k_callS (n := 1) (As := [.int tn]) (rest := []) (st1 := [.int 0]) (ws1 := [(y, .inr (4, [.ref nw, .ref ad, .ref pa, .int sn, .ref eA, .long hs])), (nw, .inl (cI, 39, .inl f)), (ad, .inl (cI, 39, .inl g)), (pa, .inl (cI, 195, .inl pf)), (eA, .inl (cI, 3, .inl z))]) S G (c_X4_isTrain l D cI cS tn) gX4_trip_X4_isTrain rfl (by decide +kernel) ⟨⟨rfl, rfl⟩, Nat.le_of_ble_eq_true rfl, Nat.le_of_ble_eq_true rfl⟩ [] (by decide) rfl [] rfl rfl rfl hl.1 rfl (Nat.le_of_ble_eq_true rfl) ⟨Nat.zero_le _, Nat.zero_le _⟩ dX4_trip_1 (congrArg (fun z => Value.int z :: []) (X4_isTrain_else c_1 c_5)) rfl (fun H locs G => ?_)
      refine lv_if_ne (tgt := 14) hx hb dX4_trip_4 (by decide) (fun c_9 => absurd c_9 (by decide)) (fun c_9 => ?_)
      refine lv_aload_n hx hb dX4_trip_7 rfl (lv_at hl 0 rfl) ?_
      refine lv_bipush (v := (-2)) hx hb dX4_trip_8 (by decide) ?_
      refine k_callV (n := 1) (As := [.int (-2)]) (rest := []) (st1 := [.int (-2)]) (ws1 := [(y, .inr (4, [.ref nw, .ref ad, .ref pa, .int sn, .ref eA, .long hs])), (nw, .inl (cI, 39, .inl f)), (ad, .inl (cI, 39, .inl g)), (pa, .inl (cI, 195, .inl pf)), (eA, .inl (cI, 3, .inl (upd z 0 ((z 0) + 1))))]) S G (c_X4_error_2 l D cI cS y nw ad pa eA sn hs f g pf z) gX4_trip_X4_error rfl (by decide +kernel) ⟨⟨rfl, rfl⟩, Nat.le_of_ble_eq_true rfl, Nat.le_of_ble_eq_true rfl⟩ [0, 1, 2, 3, 4] (by decide) rfl [y, nw, ad, pa, eA] rfl rfl 0 rfl rfl rfl hl.1 rfl (Nat.le_of_ble_eq_true rfl) ⟨Nat.zero_le _, Nat.zero_le _⟩ dX4_trip_10 rfl rfl (fun H locs G => ?_)
      have es : (s_X4_trip sn f pf z tn) = ((-2), sn, f, pf, (upd z 0 ((z 0) + 1))) := by rw [s_X4_trip, if_neg c_1, if_neg c_5]
      exact k_iret S G hr hlk dX4_trip_13 (by first | (rw [es]; done) | (rw [es]; rfl) | (simp only [es]; done) | (simp only [es]; rfl)) (by first | (rw [es]; done) | (rw [es]; rfl) | (simp only [es]; done) | (simp only [es]; rfl))
def s_X4_nextDue (f : Nat → Int32) (z : Nat → Int32) (tn : Int32) : Int32 × (Nat → Int32) := (if tn = 0 then ((s_X4_dueAfter_0 (f 0)), z) else (if tn = 1 then ((s_X4_dueAfter_1 (f 0)), z) else ((-2), (upd z 0 ((z 0) + 1)))))
set_option maxHeartbeats 4000000 in
set_option maxRecDepth 100000 in
theorem c_X4_nextDue (l : Launch) (D : va_G) (cI cS : ClassId) (y : Nat) (nw : Nat) (ad : Nat) (pa : Nat) (eA : Nat) (sn : Int32) (hs : Int64) (f : Nat → Int32) (g : Nat → Int32) (pf : Nat → Int32) (z : Nat → Int32) (tn : Int32) : Ct l yX4_nextDue wsX4_nextDue ({ frames := 2, cells := 0, slots := 0, locals := 43 }) D (tyL cI cS) [.ref y, .int tn] [(y, .inr (4, [.ref nw, .ref ad, .ref pa, .int sn, .ref eA, .long hs])), (nw, .inl (cI, 39, .inl f)), (ad, .inl (cI, 39, .inl g)), (pa, .inl (cI, 195, .inl pf)), (eA, .inl (cI, 3, .inl z))] (some (.int ((s_X4_nextDue f z tn).1))) [(y, .inr (4, [.ref nw, .ref ad, .ref pa, .int sn, .ref eA, .long hs])), (nw, .inl (cI, 39, .inl f)), (ad, .inl (cI, 39, .inl g)), (pa, .inl (cI, 195, .inl pf)), (eA, .inl (cI, 3, .inl ((s_X4_nextDue f z tn).2)))] := by
  refine Ct.of (cc := cX4_nextDue) (maxL := 2) (ret := (some .int)) (by decide) rfl (Nat.le_of_ble_eq_true rfl) ?_
  intro p ev s m args below meth c A ls S hr hlk G hl
  have hx := S.1
  have hb := S.2.1
  have hown : s.vm.findClass RX4 = some m.cls := S.2.2.2.1
  have hts := S.2.2.2.2
  have hl : lv_has ls 2 [(0, .ref y), (1, .int tn)] := hl
  have hiX4 : ∀ w ∈ wsX40, w ∈ wsX4_nextDue := by decide +kernel
  have hf7 := hts (.fieldLink RX4 7 "StrikingWorkModel" "now" "[I") (by decide +kernel)
  by_cases c_1 : tn = 0
  · skip
    have hl : lv_has ls 2 [(0, .ref y), (1, .int 0)] := by rw [c_1] at hl; exact hl
    refine lv_iload_n hx hb dX4_nextDue_0 rfl (lv_at hl 1 rfl) ?_
    refine k_callS (n := 1) (As := [.int 0]) (rest := []) (st1 := [.int 1]) (ws1 := [(y, .inr (4, [.ref nw, .ref ad, .ref pa, .int sn, .ref eA, .long hs])), (nw, .inl (cI, 39, .inl f)), (ad, .inl (cI, 39, .inl g)), (pa, .inl (cI, 195, .inl pf)), (eA, .inl (cI, 3, .inl z))]) S G (c_X4_isTrain l D cI cS 0) gX4_nextDue_X4_isTrain rfl (by decide +kernel) ⟨⟨rfl, rfl⟩, Nat.le_of_ble_eq_true rfl, Nat.le_of_ble_eq_true rfl⟩ [] (by decide) rfl [] rfl rfl rfl hl.1 rfl (Nat.le_of_ble_eq_true rfl) ⟨Nat.zero_le _, Nat.zero_le _⟩ dX4_nextDue_1 (congrArg (fun z => Value.int z :: []) (by decide : (s_X4_isTrain 0) = 1)) rfl (fun H locs G => ?_)
    refine lv_if_eq (tgt := 20) hx hb dX4_nextDue_4 (by decide) (fun c_2 => absurd c_2 (by decide)) (fun c_2 => ?_)
    refine lv_iload_n hx hb dX4_nextDue_7 rfl (lv_at hl 1 rfl) ?_
    refine lv_aload_n hx hb dX4_nextDue_8 rfl (lv_at hl 0 rfl) ?_
    refine k_get (v := .ref nw) S G 0 rfl rfl hiX4 0 (by decide) hf7 rfl dX4_nextDue_9 ?_
    refine lv_iconst (v := 0) hx hb dX4_nextDue_12 (by decide) ?_
    refine k_iald (x := (f 0)) S G 1 0 rfl rfl (by unfold vp_in; decide) rfl dX4_nextDue_13 ?_
    refine k_callS (n := 2) (As := [.int 0, .int (f 0)]) (rest := []) (st1 := [.int (s_X4_dueAfter_0 (f 0))]) (ws1 := [(y, .inr (4, [.ref nw, .ref ad, .ref pa, .int sn, .ref eA, .long hs])), (nw, .inl (cI, 39, .inl f)), (ad, .inl (cI, 39, .inl g)), (pa, .inl (cI, 195, .inl pf)), (eA, .inl (cI, 3, .inl z))]) S G (c_X4_dueAfter_0 l D cI cS (f 0)) gX4_nextDue_X4_dueAfter rfl (by decide +kernel) ⟨⟨rfl, rfl⟩, Nat.le_of_ble_eq_true rfl, Nat.le_of_ble_eq_true rfl⟩ [] (by decide) rfl [] rfl rfl rfl hl.1 rfl (Nat.le_of_ble_eq_true rfl) ⟨Nat.zero_le _, Nat.zero_le _⟩ dX4_nextDue_14 rfl rfl (fun H locs G => ?_)
    refine lv_goto (tgt := 26) hx hb dX4_nextDue_17 (by decide) ?_
    have es : (s_X4_nextDue f z tn) = ((s_X4_dueAfter_0 (f 0)), z) := by rw [s_X4_nextDue, if_pos c_1]
    exact k_iret S G hr hlk dX4_nextDue_26 (by first | (rw [es]; done) | (rw [es]; rfl) | (simp only [es]; done) | (simp only [es]; rfl)) (by first | (rw [es]; done) | (rw [es]; rfl) | (simp only [es]; done) | (simp only [es]; rfl))
  · skip
    by_cases c_3 : tn = 1
    · skip
      have hl : lv_has ls 2 [(0, .ref y), (1, .int 1)] := by rw [c_3] at hl; exact hl
      refine lv_iload_n hx hb dX4_nextDue_0 rfl (lv_at hl 1 rfl) ?_
      refine k_callS (n := 1) (As := [.int 1]) (rest := []) (st1 := [.int 1]) (ws1 := [(y, .inr (4, [.ref nw, .ref ad, .ref pa, .int sn, .ref eA, .long hs])), (nw, .inl (cI, 39, .inl f)), (ad, .inl (cI, 39, .inl g)), (pa, .inl (cI, 195, .inl pf)), (eA, .inl (cI, 3, .inl z))]) S G (c_X4_isTrain l D cI cS 1) gX4_nextDue_X4_isTrain rfl (by decide +kernel) ⟨⟨rfl, rfl⟩, Nat.le_of_ble_eq_true rfl, Nat.le_of_ble_eq_true rfl⟩ [] (by decide) rfl [] rfl rfl rfl hl.1 rfl (Nat.le_of_ble_eq_true rfl) ⟨Nat.zero_le _, Nat.zero_le _⟩ dX4_nextDue_1 (congrArg (fun z => Value.int z :: []) (by decide : (s_X4_isTrain 1) = 1)) rfl (fun H locs G => ?_)
      refine lv_if_eq (tgt := 20) hx hb dX4_nextDue_4 (by decide) (fun c_4 => absurd c_4 (by decide)) (fun c_4 => ?_)
      refine lv_iload_n hx hb dX4_nextDue_7 rfl (lv_at hl 1 rfl) ?_
      refine lv_aload_n hx hb dX4_nextDue_8 rfl (lv_at hl 0 rfl) ?_
      refine k_get (v := .ref nw) S G 0 rfl rfl hiX4 0 (by decide) hf7 rfl dX4_nextDue_9 ?_
      refine lv_iconst (v := 0) hx hb dX4_nextDue_12 (by decide) ?_
      refine k_iald (x := (f 0)) S G 1 0 rfl rfl (by unfold vp_in; decide) rfl dX4_nextDue_13 ?_
      refine k_callS (n := 2) (As := [.int 1, .int (f 0)]) (rest := []) (st1 := [.int (s_X4_dueAfter_1 (f 0))]) (ws1 := [(y, .inr (4, [.ref nw, .ref ad, .ref pa, .int sn, .ref eA, .long hs])), (nw, .inl (cI, 39, .inl f)), (ad, .inl (cI, 39, .inl g)), (pa, .inl (cI, 195, .inl pf)), (eA, .inl (cI, 3, .inl z))]) S G (c_X4_dueAfter_1 l D cI cS (f 0)) gX4_nextDue_X4_dueAfter rfl (by decide +kernel) ⟨⟨rfl, rfl⟩, Nat.le_of_ble_eq_true rfl, Nat.le_of_ble_eq_true rfl⟩ [] (by decide) rfl [] rfl rfl rfl hl.1 rfl (Nat.le_of_ble_eq_true rfl) ⟨Nat.zero_le _, Nat.zero_le _⟩ dX4_nextDue_14 rfl rfl (fun H locs G => ?_)
      refine lv_goto (tgt := 26) hx hb dX4_nextDue_17 (by decide) ?_
      have es : (s_X4_nextDue f z tn) = ((s_X4_dueAfter_1 (f 0)), z) := by rw [s_X4_nextDue, if_neg c_1, if_pos c_3]
      exact k_iret S G hr hlk dX4_nextDue_26 (by first | (rw [es]; done) | (rw [es]; rfl) | (simp only [es]; done) | (simp only [es]; rfl)) (by first | (rw [es]; done) | (rw [es]; rfl) | (simp only [es]; done) | (simp only [es]; rfl))
    · skip
      refine lv_iload_n hx hb dX4_nextDue_0 rfl (lv_at hl 1 rfl) ?_
      refine k_callS (n := 1) (As := [.int tn]) (rest := []) (st1 := [.int 0]) (ws1 := [(y, .inr (4, [.ref nw, .ref ad, .ref pa, .int sn, .ref eA, .long hs])), (nw, .inl (cI, 39, .inl f)), (ad, .inl (cI, 39, .inl g)), (pa, .inl (cI, 195, .inl pf)), (eA, .inl (cI, 3, .inl z))]) S G (c_X4_isTrain l D cI cS tn) gX4_nextDue_X4_isTrain rfl (by decide +kernel) ⟨⟨rfl, rfl⟩, Nat.le_of_ble_eq_true rfl, Nat.le_of_ble_eq_true rfl⟩ [] (by decide) rfl [] rfl rfl rfl hl.1 rfl (Nat.le_of_ble_eq_true rfl) ⟨Nat.zero_le _, Nat.zero_le _⟩ dX4_nextDue_1 (congrArg (fun z => Value.int z :: []) (X4_isTrain_else c_1 c_3)) rfl (fun H locs G => ?_)
      refine lv_if_eq (tgt := 20) hx hb dX4_nextDue_4 (by decide) (fun c_5 => ?_) (fun c_5 => absurd c_5 (by decide))
      refine lv_aload_n hx hb dX4_nextDue_20 rfl (lv_at hl 0 rfl) ?_
      refine lv_bipush (v := (-2)) hx hb dX4_nextDue_21 (by decide) ?_
      refine k_callV (n := 1) (As := [.int (-2)]) (rest := []) (st1 := [.int (-2)]) (ws1 := [(y, .inr (4, [.ref nw, .ref ad, .ref pa, .int sn, .ref eA, .long hs])), (nw, .inl (cI, 39, .inl f)), (ad, .inl (cI, 39, .inl g)), (pa, .inl (cI, 195, .inl pf)), (eA, .inl (cI, 3, .inl (upd z 0 ((z 0) + 1))))]) S G (c_X4_error_2 l D cI cS y nw ad pa eA sn hs f g pf z) gX4_nextDue_X4_error rfl (by decide +kernel) ⟨⟨rfl, rfl⟩, Nat.le_of_ble_eq_true rfl, Nat.le_of_ble_eq_true rfl⟩ [0, 1, 2, 3, 4] (by decide) rfl [y, nw, ad, pa, eA] rfl rfl 0 rfl rfl rfl hl.1 rfl (Nat.le_of_ble_eq_true rfl) ⟨Nat.zero_le _, Nat.zero_le _⟩ dX4_nextDue_23 rfl rfl (fun H locs G => ?_)
      have es : (s_X4_nextDue f z tn) = ((-2), (upd z 0 ((z 0) + 1))) := by rw [s_X4_nextDue, if_neg c_1, if_neg c_3]
      exact k_iret S G hr hlk dX4_nextDue_26 (by first | (rw [es]; done) | (rw [es]; rfl) | (simp only [es]; done) | (simp only [es]; rfl)) (by first | (rw [es]; done) | (rw [es]; rfl) | (simp only [es]; done) | (simp only [es]; rfl))
def s_X4_lag (f : Nat → Int32) (z : Nat → Int32) (tn : Int32) : Int32 × (Nat → Int32) := (if tn = 0 then ((s_X4_lagAt_0 f (f 0)), z) else (if tn = 1 then ((s_X4_lagAt_1 f (f 0)), z) else ((-2), (upd z 0 ((z 0) + 1)))))
set_option maxHeartbeats 4000000 in
set_option maxRecDepth 100000 in
theorem c_X4_lag (l : Launch) (D : va_G) (cI cS : ClassId) (y : Nat) (nw : Nat) (ad : Nat) (pa : Nat) (eA : Nat) (sn : Int32) (hs : Int64) (f : Nat → Int32) (g : Nat → Int32) (pf : Nat → Int32) (z : Nat → Int32) (tn : Int32) : Ct l yX4_lag wsX4_lag ({ frames := 3, cells := 0, slots := 0, locals := 66 }) D (tyL cI cS) [.ref y, .int tn] [(y, .inr (4, [.ref nw, .ref ad, .ref pa, .int sn, .ref eA, .long hs])), (nw, .inl (cI, 39, .inl f)), (ad, .inl (cI, 39, .inl g)), (pa, .inl (cI, 195, .inl pf)), (eA, .inl (cI, 3, .inl z))] (some (.int ((s_X4_lag f z tn).1))) [(y, .inr (4, [.ref nw, .ref ad, .ref pa, .int sn, .ref eA, .long hs])), (nw, .inl (cI, 39, .inl f)), (ad, .inl (cI, 39, .inl g)), (pa, .inl (cI, 195, .inl pf)), (eA, .inl (cI, 3, .inl ((s_X4_lag f z tn).2)))] := by
  refine Ct.of (cc := cX4_lag) (maxL := 2) (ret := (some .int)) (by decide) rfl (Nat.le_of_ble_eq_true rfl) ?_
  intro p ev s m args below meth c A ls S hr hlk G hl
  have hx := S.1
  have hb := S.2.1
  have hown : s.vm.findClass RX4 = some m.cls := S.2.2.2.1
  have hts := S.2.2.2.2
  have hl : lv_has ls 2 [(0, .ref y), (1, .int tn)] := hl
  have hiX4 : ∀ w ∈ wsX40, w ∈ wsX4_lag := by decide +kernel
  have hf7 := hts (.fieldLink RX4 7 "StrikingWorkModel" "now" "[I") (by decide +kernel)
  by_cases c_1 : tn = 0
  · skip
    have hl : lv_has ls 2 [(0, .ref y), (1, .int 0)] := by rw [c_1] at hl; exact hl
    refine lv_iload_n hx hb dX4_lag_0 rfl (lv_at hl 1 rfl) ?_
    refine k_callS (n := 1) (As := [.int 0]) (rest := []) (st1 := [.int 1]) (ws1 := [(y, .inr (4, [.ref nw, .ref ad, .ref pa, .int sn, .ref eA, .long hs])), (nw, .inl (cI, 39, .inl f)), (ad, .inl (cI, 39, .inl g)), (pa, .inl (cI, 195, .inl pf)), (eA, .inl (cI, 3, .inl z))]) S G (c_X4_isTrain l D cI cS 0) gX4_lag_X4_isTrain rfl (by decide +kernel) ⟨⟨rfl, rfl⟩, Nat.le_of_ble_eq_true rfl, Nat.le_of_ble_eq_true rfl⟩ [] (by decide) rfl [] rfl rfl rfl hl.1 rfl (Nat.le_of_ble_eq_true rfl) ⟨Nat.zero_le _, Nat.zero_le _⟩ dX4_lag_1 (congrArg (fun z => Value.int z :: []) (by decide : (s_X4_isTrain 0) = 1)) rfl (fun H locs G => ?_)
    refine lv_if_eq (tgt := 21) hx hb dX4_lag_4 (by decide) (fun c_2 => absurd c_2 (by decide)) (fun c_2 => ?_)
    refine lv_aload_n hx hb dX4_lag_7 rfl (lv_at hl 0 rfl) ?_
    refine lv_iload_n hx hb dX4_lag_8 rfl (lv_at hl 1 rfl) ?_
    refine lv_aload_n hx hb dX4_lag_9 rfl (lv_at hl 0 rfl) ?_
    refine k_get (v := .ref nw) S G 0 rfl rfl hiX4 0 (by decide) hf7 rfl dX4_lag_10 ?_
    refine lv_iconst (v := 0) hx hb dX4_lag_13 (by decide) ?_
    refine k_iald (x := (f 0)) S G 1 0 rfl rfl (by unfold vp_in; decide) rfl dX4_lag_14 ?_
    refine k_callV (n := 2) (As := [.int 0, .int (f 0)]) (rest := []) (st1 := [.int (s_X4_lagAt_0 f (f 0))]) (ws1 := [(y, .inr (4, [.ref nw, .ref ad, .ref pa, .int sn, .ref eA, .long hs])), (nw, .inl (cI, 39, .inl f)), (ad, .inl (cI, 39, .inl g)), (pa, .inl (cI, 195, .inl pf)), (eA, .inl (cI, 3, .inl z))]) S G (c_X4_lagAt_0 l D cI cS y nw ad pa eA sn hs f g pf z (f 0)) gX4_lag_X4_lagAt rfl (by decide +kernel) ⟨⟨rfl, rfl⟩, Nat.le_of_ble_eq_true rfl, Nat.le_of_ble_eq_true rfl⟩ [0, 1, 2, 3, 4] (by decide) rfl [y, nw, ad, pa, eA] rfl rfl 0 rfl rfl rfl hl.1 rfl (Nat.le_of_ble_eq_true rfl) ⟨Nat.zero_le _, Nat.zero_le _⟩ dX4_lag_15 rfl rfl (fun H locs G => ?_)
    refine lv_goto (tgt := 27) hx hb dX4_lag_18 (by decide) ?_
    have es : (s_X4_lag f z tn) = ((s_X4_lagAt_0 f (f 0)), z) := by rw [s_X4_lag, if_pos c_1]
    exact k_iret S G hr hlk dX4_lag_27 (by first | (rw [es]; done) | (rw [es]; rfl) | (simp only [es]; done) | (simp only [es]; rfl)) (by first | (rw [es]; done) | (rw [es]; rfl) | (simp only [es]; done) | (simp only [es]; rfl))
  · skip
    by_cases c_3 : tn = 1
    · skip
      have hl : lv_has ls 2 [(0, .ref y), (1, .int 1)] := by rw [c_3] at hl; exact hl
      refine lv_iload_n hx hb dX4_lag_0 rfl (lv_at hl 1 rfl) ?_
      refine k_callS (n := 1) (As := [.int 1]) (rest := []) (st1 := [.int 1]) (ws1 := [(y, .inr (4, [.ref nw, .ref ad, .ref pa, .int sn, .ref eA, .long hs])), (nw, .inl (cI, 39, .inl f)), (ad, .inl (cI, 39, .inl g)), (pa, .inl (cI, 195, .inl pf)), (eA, .inl (cI, 3, .inl z))]) S G (c_X4_isTrain l D cI cS 1) gX4_lag_X4_isTrain rfl (by decide +kernel) ⟨⟨rfl, rfl⟩, Nat.le_of_ble_eq_true rfl, Nat.le_of_ble_eq_true rfl⟩ [] (by decide) rfl [] rfl rfl rfl hl.1 rfl (Nat.le_of_ble_eq_true rfl) ⟨Nat.zero_le _, Nat.zero_le _⟩ dX4_lag_1 (congrArg (fun z => Value.int z :: []) (by decide : (s_X4_isTrain 1) = 1)) rfl (fun H locs G => ?_)
      refine lv_if_eq (tgt := 21) hx hb dX4_lag_4 (by decide) (fun c_4 => absurd c_4 (by decide)) (fun c_4 => ?_)
      refine lv_aload_n hx hb dX4_lag_7 rfl (lv_at hl 0 rfl) ?_
      refine lv_iload_n hx hb dX4_lag_8 rfl (lv_at hl 1 rfl) ?_
      refine lv_aload_n hx hb dX4_lag_9 rfl (lv_at hl 0 rfl) ?_
      refine k_get (v := .ref nw) S G 0 rfl rfl hiX4 0 (by decide) hf7 rfl dX4_lag_10 ?_
      refine lv_iconst (v := 0) hx hb dX4_lag_13 (by decide) ?_
      refine k_iald (x := (f 0)) S G 1 0 rfl rfl (by unfold vp_in; decide) rfl dX4_lag_14 ?_
      refine k_callV (n := 2) (As := [.int 1, .int (f 0)]) (rest := []) (st1 := [.int (s_X4_lagAt_1 f (f 0))]) (ws1 := [(y, .inr (4, [.ref nw, .ref ad, .ref pa, .int sn, .ref eA, .long hs])), (nw, .inl (cI, 39, .inl f)), (ad, .inl (cI, 39, .inl g)), (pa, .inl (cI, 195, .inl pf)), (eA, .inl (cI, 3, .inl z))]) S G (c_X4_lagAt_1 l D cI cS y nw ad pa eA sn hs f g pf z (f 0)) gX4_lag_X4_lagAt rfl (by decide +kernel) ⟨⟨rfl, rfl⟩, Nat.le_of_ble_eq_true rfl, Nat.le_of_ble_eq_true rfl⟩ [0, 1, 2, 3, 4] (by decide) rfl [y, nw, ad, pa, eA] rfl rfl 0 rfl rfl rfl hl.1 rfl (Nat.le_of_ble_eq_true rfl) ⟨Nat.zero_le _, Nat.zero_le _⟩ dX4_lag_15 rfl rfl (fun H locs G => ?_)
      refine lv_goto (tgt := 27) hx hb dX4_lag_18 (by decide) ?_
      have es : (s_X4_lag f z tn) = ((s_X4_lagAt_1 f (f 0)), z) := by rw [s_X4_lag, if_neg c_1, if_pos c_3]
      exact k_iret S G hr hlk dX4_lag_27 (by first | (rw [es]; done) | (rw [es]; rfl) | (simp only [es]; done) | (simp only [es]; rfl)) (by first | (rw [es]; done) | (rw [es]; rfl) | (simp only [es]; done) | (simp only [es]; rfl))
    · skip
      refine lv_iload_n hx hb dX4_lag_0 rfl (lv_at hl 1 rfl) ?_
      refine k_callS (n := 1) (As := [.int tn]) (rest := []) (st1 := [.int 0]) (ws1 := [(y, .inr (4, [.ref nw, .ref ad, .ref pa, .int sn, .ref eA, .long hs])), (nw, .inl (cI, 39, .inl f)), (ad, .inl (cI, 39, .inl g)), (pa, .inl (cI, 195, .inl pf)), (eA, .inl (cI, 3, .inl z))]) S G (c_X4_isTrain l D cI cS tn) gX4_lag_X4_isTrain rfl (by decide +kernel) ⟨⟨rfl, rfl⟩, Nat.le_of_ble_eq_true rfl, Nat.le_of_ble_eq_true rfl⟩ [] (by decide) rfl [] rfl rfl rfl hl.1 rfl (Nat.le_of_ble_eq_true rfl) ⟨Nat.zero_le _, Nat.zero_le _⟩ dX4_lag_1 (congrArg (fun z => Value.int z :: []) (X4_isTrain_else c_1 c_3)) rfl (fun H locs G => ?_)
      refine lv_if_eq (tgt := 21) hx hb dX4_lag_4 (by decide) (fun c_5 => ?_) (fun c_5 => absurd c_5 (by decide))
      refine lv_aload_n hx hb dX4_lag_21 rfl (lv_at hl 0 rfl) ?_
      refine lv_bipush (v := (-2)) hx hb dX4_lag_22 (by decide) ?_
      refine k_callV (n := 1) (As := [.int (-2)]) (rest := []) (st1 := [.int (-2)]) (ws1 := [(y, .inr (4, [.ref nw, .ref ad, .ref pa, .int sn, .ref eA, .long hs])), (nw, .inl (cI, 39, .inl f)), (ad, .inl (cI, 39, .inl g)), (pa, .inl (cI, 195, .inl pf)), (eA, .inl (cI, 3, .inl (upd z 0 ((z 0) + 1))))]) S G (c_X4_error_2 l D cI cS y nw ad pa eA sn hs f g pf z) gX4_lag_X4_error rfl (by decide +kernel) ⟨⟨rfl, rfl⟩, Nat.le_of_ble_eq_true rfl, Nat.le_of_ble_eq_true rfl⟩ [0, 1, 2, 3, 4] (by decide) rfl [y, nw, ad, pa, eA] rfl rfl 0 rfl rfl rfl hl.1 rfl (Nat.le_of_ble_eq_true rfl) ⟨Nat.zero_le _, Nat.zero_le _⟩ dX4_lag_24 rfl rfl (fun H locs G => ?_)
      have es : (s_X4_lag f z tn) = ((-2), (upd z 0 ((z 0) + 1))) := by rw [s_X4_lag, if_neg c_1, if_neg c_3]
      exact k_iret S G hr hlk dX4_lag_27 (by first | (rw [es]; done) | (rw [es]; rfl) | (simp only [es]; done) | (simp only [es]; rfl)) (by first | (rw [es]; done) | (rw [es]; rfl) | (simp only [es]; done) | (simp only [es]; rfl))
def s_X4_minute (f : Nat → Int32) : Int32 := (f 0)
set_option maxHeartbeats 4000000 in
set_option maxRecDepth 100000 in
theorem c_X4_minute (l : Launch) (D : va_G) (cI cS : ClassId) (y : Nat) (nw : Nat) (ad : Nat) (pa : Nat) (eA : Nat) (sn : Int32) (hs : Int64) (f : Nat → Int32) (g : Nat → Int32) (pf : Nat → Int32) (z : Nat → Int32) : Ct l yX4_minute wsX4_minute ({ frames := 0, cells := 0, slots := 0, locals := 0 }) D (tyL cI cS) [.ref y] [(y, .inr (4, [.ref nw, .ref ad, .ref pa, .int sn, .ref eA, .long hs])), (nw, .inl (cI, 39, .inl f)), (ad, .inl (cI, 39, .inl g)), (pa, .inl (cI, 195, .inl pf)), (eA, .inl (cI, 3, .inl z))] (some (.int (s_X4_minute f))) [(y, .inr (4, [.ref nw, .ref ad, .ref pa, .int sn, .ref eA, .long hs])), (nw, .inl (cI, 39, .inl f)), (ad, .inl (cI, 39, .inl g)), (pa, .inl (cI, 195, .inl pf)), (eA, .inl (cI, 3, .inl z))] := by
  refine Ct.of (cc := cX4_minute) (maxL := 1) (ret := (some .int)) (by decide) rfl (Nat.le_of_ble_eq_true rfl) ?_
  intro p ev s m args below meth c A ls S hr hlk G hl
  have hx := S.1
  have hb := S.2.1
  have hown : s.vm.findClass RX4 = some m.cls := S.2.2.2.1
  have hts := S.2.2.2.2
  have hl : lv_has ls 1 [(0, .ref y)] := hl
  have hiX4 : ∀ w ∈ wsX40, w ∈ wsX4_minute := by decide +kernel
  have hf7 := hts (.fieldLink RX4 7 "StrikingWorkModel" "now" "[I") (by decide +kernel)
  refine lv_aload_n hx hb dX4_minute_0 rfl (lv_at hl 0 rfl) ?_
  refine k_get (v := .ref nw) S G 0 rfl rfl hiX4 0 (by decide) hf7 rfl dX4_minute_1 ?_
  refine lv_iconst (v := 0) hx hb dX4_minute_4 (by decide) ?_
  refine k_iald (x := (f 0)) S G 1 0 rfl rfl (by unfold vp_in; decide) rfl dX4_minute_5 ?_
  have es : (s_X4_minute f) = (f 0) := rfl
  exact k_iret S G hr hlk dX4_minute_6 (by first | (rw [es]; done) | (rw [es]; rfl) | (simp only [es]; done) | (simp only [es]; rfl)) rfl
def s_X4_valueOf_1 (f : Nat → Int32) (z : Nat → Int32) (tn : Int32) : Int32 × (Nat → Int32) := (if tn = 0 then ((f 5), z) else (if tn = 1 then ((f 10), z) else ((-2), (upd z 0 ((z 0) + 1)))))
set_option maxHeartbeats 4000000 in
set_option maxRecDepth 100000 in
theorem c_X4_valueOf_1 (l : Launch) (D : va_G) (cI cS : ClassId) (y : Nat) (nw : Nat) (ad : Nat) (pa : Nat) (eA : Nat) (sn : Int32) (hs : Int64) (f : Nat → Int32) (g : Nat → Int32) (pf : Nat → Int32) (z : Nat → Int32) (tn : Int32) : Ct l yX4_valueOf wsX4_valueOf ({ frames := 2, cells := 0, slots := 0, locals := 42 }) D (tyL cI cS) [.ref y, .int tn, .int 1] [(y, .inr (4, [.ref nw, .ref ad, .ref pa, .int sn, .ref eA, .long hs])), (nw, .inl (cI, 39, .inl f)), (ad, .inl (cI, 39, .inl g)), (pa, .inl (cI, 195, .inl pf)), (eA, .inl (cI, 3, .inl z))] (some (.int ((s_X4_valueOf_1 f z tn).1))) [(y, .inr (4, [.ref nw, .ref ad, .ref pa, .int sn, .ref eA, .long hs])), (nw, .inl (cI, 39, .inl f)), (ad, .inl (cI, 39, .inl g)), (pa, .inl (cI, 195, .inl pf)), (eA, .inl (cI, 3, .inl ((s_X4_valueOf_1 f z tn).2)))] := by
  refine Ct.of (cc := cX4_valueOf) (maxL := 3) (ret := (some .int)) (by decide) rfl (Nat.le_of_ble_eq_true rfl) ?_
  intro p ev s m args below meth c A ls S hr hlk G hl
  have hx := S.1
  have hb := S.2.1
  have hown : s.vm.findClass RX4 = some m.cls := S.2.2.2.1
  have hts := S.2.2.2.2
  have hl : lv_has ls 3 [(0, .ref y), (1, .int tn), (2, .int 1)] := hl
  have hiX4 : ∀ w ∈ wsX40, w ∈ wsX4_valueOf := by decide +kernel
  have hf7 := hts (.fieldLink RX4 7 "StrikingWorkModel" "now" "[I") (by decide +kernel)
  by_cases c_1 : tn = 0
  · skip
    have hl : lv_has ls 3 [(0, .ref y), (1, .int 0), (2, .int 1)] := by rw [c_1] at hl; exact hl
    refine lv_iload_n hx hb dX4_valueOf_0 rfl (lv_at hl 1 rfl) ?_
    refine k_callS (n := 1) (As := [.int 0]) (rest := []) (st1 := [.int 1]) (ws1 := [(y, .inr (4, [.ref nw, .ref ad, .ref pa, .int sn, .ref eA, .long hs])), (nw, .inl (cI, 39, .inl f)), (ad, .inl (cI, 39, .inl g)), (pa, .inl (cI, 195, .inl pf)), (eA, .inl (cI, 3, .inl z))]) S G (c_X4_isTrain l D cI cS 0) gX4_valueOf_X4_isTrain rfl (by decide +kernel) ⟨⟨rfl, rfl⟩, Nat.le_of_ble_eq_true rfl, Nat.le_of_ble_eq_true rfl⟩ [] (by decide) rfl [] rfl rfl rfl hl.1 rfl (Nat.le_of_ble_eq_true rfl) ⟨Nat.zero_le _, Nat.zero_le _⟩ dX4_valueOf_1 (congrArg (fun z => Value.int z :: []) (by decide : (s_X4_isTrain 0) = 1)) rfl (fun H locs G => ?_)
    refine lv_if_eq (tgt := 20) hx hb dX4_valueOf_4 (by decide) (fun c_2 => absurd c_2 (by decide)) (fun c_2 => ?_)
    refine lv_aload_n hx hb dX4_valueOf_7 rfl (lv_at hl 0 rfl) ?_
    refine k_get (v := .ref nw) S G 0 rfl rfl hiX4 0 (by decide) hf7 rfl dX4_valueOf_8 ?_
    refine lv_iload_n hx hb dX4_valueOf_11 rfl (lv_at hl 1 rfl) ?_
    refine lv_iload_n hx hb dX4_valueOf_12 rfl (lv_at hl 2 rfl) ?_
    refine k_callS (n := 2) (As := [.int 0, .int 1]) (rest := [.ref nw]) (st1 := [.int 5, .ref nw]) (ws1 := [(y, .inr (4, [.ref nw, .ref ad, .ref pa, .int sn, .ref eA, .long hs])), (nw, .inl (cI, 39, .inl f)), (ad, .inl (cI, 39, .inl g)), (pa, .inl (cI, 195, .inl pf)), (eA, .inl (cI, 3, .inl z))]) S G (c_X4_at l D cI cS 0 1) gX4_valueOf_X4_at rfl (by decide +kernel) ⟨⟨rfl, rfl⟩, Nat.le_of_ble_eq_true rfl, Nat.le_of_ble_eq_true rfl⟩ [] (by decide) rfl [] rfl rfl rfl hl.1 rfl (Nat.le_of_ble_eq_true rfl) ⟨Nat.zero_le _, Nat.zero_le _⟩ dX4_valueOf_13 (congrArg (fun z => Value.int z :: [.ref nw]) (by decide : (s_X4_at 0 1) = 5)) rfl (fun H locs G => ?_)
    refine k_iald (x := (f 5)) S G 1 0 rfl rfl (by unfold vp_in; decide) rfl dX4_valueOf_16 ?_
    refine lv_goto (tgt := 26) hx hb dX4_valueOf_17 (by decide) ?_
    have es : (s_X4_valueOf_1 f z tn) = ((f 5), z) := by rw [s_X4_valueOf_1, if_pos c_1]
    exact k_iret S G hr hlk dX4_valueOf_26 (by first | (rw [es]; done) | (rw [es]; rfl) | (simp only [es]; done) | (simp only [es]; rfl)) (by first | (rw [es]; done) | (rw [es]; rfl) | (simp only [es]; done) | (simp only [es]; rfl))
  · skip
    by_cases c_3 : tn = 1
    · skip
      have hl : lv_has ls 3 [(0, .ref y), (1, .int 1), (2, .int 1)] := by rw [c_3] at hl; exact hl
      refine lv_iload_n hx hb dX4_valueOf_0 rfl (lv_at hl 1 rfl) ?_
      refine k_callS (n := 1) (As := [.int 1]) (rest := []) (st1 := [.int 1]) (ws1 := [(y, .inr (4, [.ref nw, .ref ad, .ref pa, .int sn, .ref eA, .long hs])), (nw, .inl (cI, 39, .inl f)), (ad, .inl (cI, 39, .inl g)), (pa, .inl (cI, 195, .inl pf)), (eA, .inl (cI, 3, .inl z))]) S G (c_X4_isTrain l D cI cS 1) gX4_valueOf_X4_isTrain rfl (by decide +kernel) ⟨⟨rfl, rfl⟩, Nat.le_of_ble_eq_true rfl, Nat.le_of_ble_eq_true rfl⟩ [] (by decide) rfl [] rfl rfl rfl hl.1 rfl (Nat.le_of_ble_eq_true rfl) ⟨Nat.zero_le _, Nat.zero_le _⟩ dX4_valueOf_1 (congrArg (fun z => Value.int z :: []) (by decide : (s_X4_isTrain 1) = 1)) rfl (fun H locs G => ?_)
      refine lv_if_eq (tgt := 20) hx hb dX4_valueOf_4 (by decide) (fun c_4 => absurd c_4 (by decide)) (fun c_4 => ?_)
      refine lv_aload_n hx hb dX4_valueOf_7 rfl (lv_at hl 0 rfl) ?_
      refine k_get (v := .ref nw) S G 0 rfl rfl hiX4 0 (by decide) hf7 rfl dX4_valueOf_8 ?_
      refine lv_iload_n hx hb dX4_valueOf_11 rfl (lv_at hl 1 rfl) ?_
      refine lv_iload_n hx hb dX4_valueOf_12 rfl (lv_at hl 2 rfl) ?_
      refine k_callS (n := 2) (As := [.int 1, .int 1]) (rest := [.ref nw]) (st1 := [.int 10, .ref nw]) (ws1 := [(y, .inr (4, [.ref nw, .ref ad, .ref pa, .int sn, .ref eA, .long hs])), (nw, .inl (cI, 39, .inl f)), (ad, .inl (cI, 39, .inl g)), (pa, .inl (cI, 195, .inl pf)), (eA, .inl (cI, 3, .inl z))]) S G (c_X4_at l D cI cS 1 1) gX4_valueOf_X4_at rfl (by decide +kernel) ⟨⟨rfl, rfl⟩, Nat.le_of_ble_eq_true rfl, Nat.le_of_ble_eq_true rfl⟩ [] (by decide) rfl [] rfl rfl rfl hl.1 rfl (Nat.le_of_ble_eq_true rfl) ⟨Nat.zero_le _, Nat.zero_le _⟩ dX4_valueOf_13 (congrArg (fun z => Value.int z :: [.ref nw]) (by decide : (s_X4_at 1 1) = 10)) rfl (fun H locs G => ?_)
      refine k_iald (x := (f 10)) S G 1 0 rfl rfl (by unfold vp_in; decide) rfl dX4_valueOf_16 ?_
      refine lv_goto (tgt := 26) hx hb dX4_valueOf_17 (by decide) ?_
      have es : (s_X4_valueOf_1 f z tn) = ((f 10), z) := by rw [s_X4_valueOf_1, if_neg c_1, if_pos c_3]
      exact k_iret S G hr hlk dX4_valueOf_26 (by first | (rw [es]; done) | (rw [es]; rfl) | (simp only [es]; done) | (simp only [es]; rfl)) (by first | (rw [es]; done) | (rw [es]; rfl) | (simp only [es]; done) | (simp only [es]; rfl))
    · skip
      refine lv_iload_n hx hb dX4_valueOf_0 rfl (lv_at hl 1 rfl) ?_
      refine k_callS (n := 1) (As := [.int tn]) (rest := []) (st1 := [.int 0]) (ws1 := [(y, .inr (4, [.ref nw, .ref ad, .ref pa, .int sn, .ref eA, .long hs])), (nw, .inl (cI, 39, .inl f)), (ad, .inl (cI, 39, .inl g)), (pa, .inl (cI, 195, .inl pf)), (eA, .inl (cI, 3, .inl z))]) S G (c_X4_isTrain l D cI cS tn) gX4_valueOf_X4_isTrain rfl (by decide +kernel) ⟨⟨rfl, rfl⟩, Nat.le_of_ble_eq_true rfl, Nat.le_of_ble_eq_true rfl⟩ [] (by decide) rfl [] rfl rfl rfl hl.1 rfl (Nat.le_of_ble_eq_true rfl) ⟨Nat.zero_le _, Nat.zero_le _⟩ dX4_valueOf_1 (congrArg (fun z => Value.int z :: []) (X4_isTrain_else c_1 c_3)) rfl (fun H locs G => ?_)
      refine lv_if_eq (tgt := 20) hx hb dX4_valueOf_4 (by decide) (fun c_5 => ?_) (fun c_5 => absurd c_5 (by decide))
      refine lv_aload_n hx hb dX4_valueOf_20 rfl (lv_at hl 0 rfl) ?_
      refine lv_bipush (v := (-2)) hx hb dX4_valueOf_21 (by decide) ?_
      refine k_callV (n := 1) (As := [.int (-2)]) (rest := []) (st1 := [.int (-2)]) (ws1 := [(y, .inr (4, [.ref nw, .ref ad, .ref pa, .int sn, .ref eA, .long hs])), (nw, .inl (cI, 39, .inl f)), (ad, .inl (cI, 39, .inl g)), (pa, .inl (cI, 195, .inl pf)), (eA, .inl (cI, 3, .inl (upd z 0 ((z 0) + 1))))]) S G (c_X4_error_2 l D cI cS y nw ad pa eA sn hs f g pf z) gX4_valueOf_X4_error rfl (by decide +kernel) ⟨⟨rfl, rfl⟩, Nat.le_of_ble_eq_true rfl, Nat.le_of_ble_eq_true rfl⟩ [0, 1, 2, 3, 4] (by decide) rfl [y, nw, ad, pa, eA] rfl rfl 0 rfl rfl rfl hl.1 rfl (Nat.le_of_ble_eq_true rfl) ⟨Nat.zero_le _, Nat.zero_le _⟩ dX4_valueOf_23 rfl rfl (fun H locs G => ?_)
      have es : (s_X4_valueOf_1 f z tn) = ((-2), (upd z 0 ((z 0) + 1))) := by rw [s_X4_valueOf_1, if_neg c_1, if_neg c_3]
      exact k_iret S G hr hlk dX4_valueOf_26 (by first | (rw [es]; done) | (rw [es]; rfl) | (simp only [es]; done) | (simp only [es]; rfl)) (by first | (rw [es]; done) | (rw [es]; rfl) | (simp only [es]; done) | (simp only [es]; rfl))
def s_X4_position (f : Nat → Int32) (z : Nat → Int32) (tn : Int32) : Int32 × (Nat → Int32) := ((s_X4_valueOf_1 f z tn).1, (s_X4_valueOf_1 f z tn).2)
set_option maxHeartbeats 4000000 in
set_option maxRecDepth 100000 in
theorem c_X4_position (l : Launch) (D : va_G) (cI cS : ClassId) (y : Nat) (nw : Nat) (ad : Nat) (pa : Nat) (eA : Nat) (sn : Int32) (hs : Int64) (f : Nat → Int32) (g : Nat → Int32) (pf : Nat → Int32) (z : Nat → Int32) (tn : Int32) : Ct l yX4_position wsX4_position ({ frames := 3, cells := 0, slots := 0, locals := 64 }) D (tyL cI cS) [.ref y, .int tn] [(y, .inr (4, [.ref nw, .ref ad, .ref pa, .int sn, .ref eA, .long hs])), (nw, .inl (cI, 39, .inl f)), (ad, .inl (cI, 39, .inl g)), (pa, .inl (cI, 195, .inl pf)), (eA, .inl (cI, 3, .inl z))] (some (.int ((s_X4_position f z tn).1))) [(y, .inr (4, [.ref nw, .ref ad, .ref pa, .int sn, .ref eA, .long hs])), (nw, .inl (cI, 39, .inl f)), (ad, .inl (cI, 39, .inl g)), (pa, .inl (cI, 195, .inl pf)), (eA, .inl (cI, 3, .inl ((s_X4_position f z tn).2)))] := by
  refine Ct.of (cc := cX4_position) (maxL := 2) (ret := (some .int)) (by decide) rfl (Nat.le_of_ble_eq_true rfl) ?_
  intro p ev s m args below meth c A ls S hr hlk G hl
  have hx := S.1
  have hb := S.2.1
  have hown : s.vm.findClass RX4 = some m.cls := S.2.2.2.1
  have hts := S.2.2.2.2
  have hl : lv_has ls 2 [(0, .ref y), (1, .int tn)] := hl
  refine lv_aload_n hx hb dX4_position_0 rfl (lv_at hl 0 rfl) ?_
  refine lv_iload_n hx hb dX4_position_1 rfl (lv_at hl 1 rfl) ?_
  refine lv_iconst (v := 1) hx hb dX4_position_2 (by decide) ?_
  refine k_callV (n := 2) (As := [.int tn, .int 1]) (rest := []) (st1 := [.int ((s_X4_valueOf_1 f z tn).1)]) (ws1 := [(y, .inr (4, [.ref nw, .ref ad, .ref pa, .int sn, .ref eA, .long hs])), (nw, .inl (cI, 39, .inl f)), (ad, .inl (cI, 39, .inl g)), (pa, .inl (cI, 195, .inl pf)), (eA, .inl (cI, 3, .inl ((s_X4_valueOf_1 f z tn).2)))]) S G (c_X4_valueOf_1 l D cI cS y nw ad pa eA sn hs f g pf z tn) gX4_position_X4_valueOf rfl (by decide +kernel) ⟨⟨rfl, rfl⟩, Nat.le_of_ble_eq_true rfl, Nat.le_of_ble_eq_true rfl⟩ [0, 1, 2, 3, 4] (by decide) rfl [y, nw, ad, pa, eA] rfl rfl 0 rfl rfl rfl hl.1 rfl (Nat.le_of_ble_eq_true rfl) ⟨Nat.zero_le _, Nat.zero_le _⟩ dX4_position_3 rfl rfl (fun H locs G => ?_)
  generalize hu1 : (s_X4_valueOf_1 f z tn) = u1 at G ⊢
  have es : (s_X4_position f z tn) = (u1.1, u1.2) := by rw [s_X4_position, hu1]
  exact k_iret S G hr hlk dX4_position_6 (by first | (rw [es]; done) | (rw [es]; rfl) | (simp only [es]; done) | (simp only [es]; rfl)) (by first | (rw [es]; done) | (rw [es]; rfl) | (simp only [es]; done) | (simp only [es]; rfl))
def s_X4_valueOf_2 (f : Nat → Int32) (z : Nat → Int32) (tn : Int32) : Int32 × (Nat → Int32) := (if tn = 0 then ((f 6), z) else (if tn = 1 then ((f 11), z) else ((-2), (upd z 0 ((z 0) + 1)))))
set_option maxHeartbeats 4000000 in
set_option maxRecDepth 100000 in
theorem c_X4_valueOf_2 (l : Launch) (D : va_G) (cI cS : ClassId) (y : Nat) (nw : Nat) (ad : Nat) (pa : Nat) (eA : Nat) (sn : Int32) (hs : Int64) (f : Nat → Int32) (g : Nat → Int32) (pf : Nat → Int32) (z : Nat → Int32) (tn : Int32) : Ct l yX4_valueOf wsX4_valueOf ({ frames := 2, cells := 0, slots := 0, locals := 42 }) D (tyL cI cS) [.ref y, .int tn, .int 2] [(y, .inr (4, [.ref nw, .ref ad, .ref pa, .int sn, .ref eA, .long hs])), (nw, .inl (cI, 39, .inl f)), (ad, .inl (cI, 39, .inl g)), (pa, .inl (cI, 195, .inl pf)), (eA, .inl (cI, 3, .inl z))] (some (.int ((s_X4_valueOf_2 f z tn).1))) [(y, .inr (4, [.ref nw, .ref ad, .ref pa, .int sn, .ref eA, .long hs])), (nw, .inl (cI, 39, .inl f)), (ad, .inl (cI, 39, .inl g)), (pa, .inl (cI, 195, .inl pf)), (eA, .inl (cI, 3, .inl ((s_X4_valueOf_2 f z tn).2)))] := by
  refine Ct.of (cc := cX4_valueOf) (maxL := 3) (ret := (some .int)) (by decide) rfl (Nat.le_of_ble_eq_true rfl) ?_
  intro p ev s m args below meth c A ls S hr hlk G hl
  have hx := S.1
  have hb := S.2.1
  have hown : s.vm.findClass RX4 = some m.cls := S.2.2.2.1
  have hts := S.2.2.2.2
  have hl : lv_has ls 3 [(0, .ref y), (1, .int tn), (2, .int 2)] := hl
  have hiX4 : ∀ w ∈ wsX40, w ∈ wsX4_valueOf := by decide +kernel
  have hf7 := hts (.fieldLink RX4 7 "StrikingWorkModel" "now" "[I") (by decide +kernel)
  by_cases c_1 : tn = 0
  · skip
    have hl : lv_has ls 3 [(0, .ref y), (1, .int 0), (2, .int 2)] := by rw [c_1] at hl; exact hl
    refine lv_iload_n hx hb dX4_valueOf_0 rfl (lv_at hl 1 rfl) ?_
    refine k_callS (n := 1) (As := [.int 0]) (rest := []) (st1 := [.int 1]) (ws1 := [(y, .inr (4, [.ref nw, .ref ad, .ref pa, .int sn, .ref eA, .long hs])), (nw, .inl (cI, 39, .inl f)), (ad, .inl (cI, 39, .inl g)), (pa, .inl (cI, 195, .inl pf)), (eA, .inl (cI, 3, .inl z))]) S G (c_X4_isTrain l D cI cS 0) gX4_valueOf_X4_isTrain rfl (by decide +kernel) ⟨⟨rfl, rfl⟩, Nat.le_of_ble_eq_true rfl, Nat.le_of_ble_eq_true rfl⟩ [] (by decide) rfl [] rfl rfl rfl hl.1 rfl (Nat.le_of_ble_eq_true rfl) ⟨Nat.zero_le _, Nat.zero_le _⟩ dX4_valueOf_1 (congrArg (fun z => Value.int z :: []) (by decide : (s_X4_isTrain 0) = 1)) rfl (fun H locs G => ?_)
    refine lv_if_eq (tgt := 20) hx hb dX4_valueOf_4 (by decide) (fun c_2 => absurd c_2 (by decide)) (fun c_2 => ?_)
    refine lv_aload_n hx hb dX4_valueOf_7 rfl (lv_at hl 0 rfl) ?_
    refine k_get (v := .ref nw) S G 0 rfl rfl hiX4 0 (by decide) hf7 rfl dX4_valueOf_8 ?_
    refine lv_iload_n hx hb dX4_valueOf_11 rfl (lv_at hl 1 rfl) ?_
    refine lv_iload_n hx hb dX4_valueOf_12 rfl (lv_at hl 2 rfl) ?_
    refine k_callS (n := 2) (As := [.int 0, .int 2]) (rest := [.ref nw]) (st1 := [.int 6, .ref nw]) (ws1 := [(y, .inr (4, [.ref nw, .ref ad, .ref pa, .int sn, .ref eA, .long hs])), (nw, .inl (cI, 39, .inl f)), (ad, .inl (cI, 39, .inl g)), (pa, .inl (cI, 195, .inl pf)), (eA, .inl (cI, 3, .inl z))]) S G (c_X4_at l D cI cS 0 2) gX4_valueOf_X4_at rfl (by decide +kernel) ⟨⟨rfl, rfl⟩, Nat.le_of_ble_eq_true rfl, Nat.le_of_ble_eq_true rfl⟩ [] (by decide) rfl [] rfl rfl rfl hl.1 rfl (Nat.le_of_ble_eq_true rfl) ⟨Nat.zero_le _, Nat.zero_le _⟩ dX4_valueOf_13 (congrArg (fun z => Value.int z :: [.ref nw]) (by decide : (s_X4_at 0 2) = 6)) rfl (fun H locs G => ?_)
    refine k_iald (x := (f 6)) S G 1 0 rfl rfl (by unfold vp_in; decide) rfl dX4_valueOf_16 ?_
    refine lv_goto (tgt := 26) hx hb dX4_valueOf_17 (by decide) ?_
    have es : (s_X4_valueOf_2 f z tn) = ((f 6), z) := by rw [s_X4_valueOf_2, if_pos c_1]
    exact k_iret S G hr hlk dX4_valueOf_26 (by first | (rw [es]; done) | (rw [es]; rfl) | (simp only [es]; done) | (simp only [es]; rfl)) (by first | (rw [es]; done) | (rw [es]; rfl) | (simp only [es]; done) | (simp only [es]; rfl))
  · skip
    by_cases c_3 : tn = 1
    · skip
      have hl : lv_has ls 3 [(0, .ref y), (1, .int 1), (2, .int 2)] := by rw [c_3] at hl; exact hl
      refine lv_iload_n hx hb dX4_valueOf_0 rfl (lv_at hl 1 rfl) ?_
      refine k_callS (n := 1) (As := [.int 1]) (rest := []) (st1 := [.int 1]) (ws1 := [(y, .inr (4, [.ref nw, .ref ad, .ref pa, .int sn, .ref eA, .long hs])), (nw, .inl (cI, 39, .inl f)), (ad, .inl (cI, 39, .inl g)), (pa, .inl (cI, 195, .inl pf)), (eA, .inl (cI, 3, .inl z))]) S G (c_X4_isTrain l D cI cS 1) gX4_valueOf_X4_isTrain rfl (by decide +kernel) ⟨⟨rfl, rfl⟩, Nat.le_of_ble_eq_true rfl, Nat.le_of_ble_eq_true rfl⟩ [] (by decide) rfl [] rfl rfl rfl hl.1 rfl (Nat.le_of_ble_eq_true rfl) ⟨Nat.zero_le _, Nat.zero_le _⟩ dX4_valueOf_1 (congrArg (fun z => Value.int z :: []) (by decide : (s_X4_isTrain 1) = 1)) rfl (fun H locs G => ?_)
      refine lv_if_eq (tgt := 20) hx hb dX4_valueOf_4 (by decide) (fun c_4 => absurd c_4 (by decide)) (fun c_4 => ?_)
      refine lv_aload_n hx hb dX4_valueOf_7 rfl (lv_at hl 0 rfl) ?_
      refine k_get (v := .ref nw) S G 0 rfl rfl hiX4 0 (by decide) hf7 rfl dX4_valueOf_8 ?_
      refine lv_iload_n hx hb dX4_valueOf_11 rfl (lv_at hl 1 rfl) ?_
      refine lv_iload_n hx hb dX4_valueOf_12 rfl (lv_at hl 2 rfl) ?_
      refine k_callS (n := 2) (As := [.int 1, .int 2]) (rest := [.ref nw]) (st1 := [.int 11, .ref nw]) (ws1 := [(y, .inr (4, [.ref nw, .ref ad, .ref pa, .int sn, .ref eA, .long hs])), (nw, .inl (cI, 39, .inl f)), (ad, .inl (cI, 39, .inl g)), (pa, .inl (cI, 195, .inl pf)), (eA, .inl (cI, 3, .inl z))]) S G (c_X4_at l D cI cS 1 2) gX4_valueOf_X4_at rfl (by decide +kernel) ⟨⟨rfl, rfl⟩, Nat.le_of_ble_eq_true rfl, Nat.le_of_ble_eq_true rfl⟩ [] (by decide) rfl [] rfl rfl rfl hl.1 rfl (Nat.le_of_ble_eq_true rfl) ⟨Nat.zero_le _, Nat.zero_le _⟩ dX4_valueOf_13 (congrArg (fun z => Value.int z :: [.ref nw]) (by decide : (s_X4_at 1 2) = 11)) rfl (fun H locs G => ?_)
      refine k_iald (x := (f 11)) S G 1 0 rfl rfl (by unfold vp_in; decide) rfl dX4_valueOf_16 ?_
      refine lv_goto (tgt := 26) hx hb dX4_valueOf_17 (by decide) ?_
      have es : (s_X4_valueOf_2 f z tn) = ((f 11), z) := by rw [s_X4_valueOf_2, if_neg c_1, if_pos c_3]
      exact k_iret S G hr hlk dX4_valueOf_26 (by first | (rw [es]; done) | (rw [es]; rfl) | (simp only [es]; done) | (simp only [es]; rfl)) (by first | (rw [es]; done) | (rw [es]; rfl) | (simp only [es]; done) | (simp only [es]; rfl))
    · skip
      refine lv_iload_n hx hb dX4_valueOf_0 rfl (lv_at hl 1 rfl) ?_
      refine k_callS (n := 1) (As := [.int tn]) (rest := []) (st1 := [.int 0]) (ws1 := [(y, .inr (4, [.ref nw, .ref ad, .ref pa, .int sn, .ref eA, .long hs])), (nw, .inl (cI, 39, .inl f)), (ad, .inl (cI, 39, .inl g)), (pa, .inl (cI, 195, .inl pf)), (eA, .inl (cI, 3, .inl z))]) S G (c_X4_isTrain l D cI cS tn) gX4_valueOf_X4_isTrain rfl (by decide +kernel) ⟨⟨rfl, rfl⟩, Nat.le_of_ble_eq_true rfl, Nat.le_of_ble_eq_true rfl⟩ [] (by decide) rfl [] rfl rfl rfl hl.1 rfl (Nat.le_of_ble_eq_true rfl) ⟨Nat.zero_le _, Nat.zero_le _⟩ dX4_valueOf_1 (congrArg (fun z => Value.int z :: []) (X4_isTrain_else c_1 c_3)) rfl (fun H locs G => ?_)
      refine lv_if_eq (tgt := 20) hx hb dX4_valueOf_4 (by decide) (fun c_5 => ?_) (fun c_5 => absurd c_5 (by decide))
      refine lv_aload_n hx hb dX4_valueOf_20 rfl (lv_at hl 0 rfl) ?_
      refine lv_bipush (v := (-2)) hx hb dX4_valueOf_21 (by decide) ?_
      refine k_callV (n := 1) (As := [.int (-2)]) (rest := []) (st1 := [.int (-2)]) (ws1 := [(y, .inr (4, [.ref nw, .ref ad, .ref pa, .int sn, .ref eA, .long hs])), (nw, .inl (cI, 39, .inl f)), (ad, .inl (cI, 39, .inl g)), (pa, .inl (cI, 195, .inl pf)), (eA, .inl (cI, 3, .inl (upd z 0 ((z 0) + 1))))]) S G (c_X4_error_2 l D cI cS y nw ad pa eA sn hs f g pf z) gX4_valueOf_X4_error rfl (by decide +kernel) ⟨⟨rfl, rfl⟩, Nat.le_of_ble_eq_true rfl, Nat.le_of_ble_eq_true rfl⟩ [0, 1, 2, 3, 4] (by decide) rfl [y, nw, ad, pa, eA] rfl rfl 0 rfl rfl rfl hl.1 rfl (Nat.le_of_ble_eq_true rfl) ⟨Nat.zero_le _, Nat.zero_le _⟩ dX4_valueOf_23 rfl rfl (fun H locs G => ?_)
      have es : (s_X4_valueOf_2 f z tn) = ((-2), (upd z 0 ((z 0) + 1))) := by rw [s_X4_valueOf_2, if_neg c_1, if_neg c_3]
      exact k_iret S G hr hlk dX4_valueOf_26 (by first | (rw [es]; done) | (rw [es]; rfl) | (simp only [es]; done) | (simp only [es]; rfl)) (by first | (rw [es]; done) | (rw [es]; rfl) | (simp only [es]; done) | (simp only [es]; rfl))
def s_X4_weight (f : Nat → Int32) (z : Nat → Int32) (tn : Int32) : Int32 × (Nat → Int32) := ((s_X4_valueOf_2 f z tn).1, (s_X4_valueOf_2 f z tn).2)
set_option maxHeartbeats 4000000 in
set_option maxRecDepth 100000 in
theorem c_X4_weight (l : Launch) (D : va_G) (cI cS : ClassId) (y : Nat) (nw : Nat) (ad : Nat) (pa : Nat) (eA : Nat) (sn : Int32) (hs : Int64) (f : Nat → Int32) (g : Nat → Int32) (pf : Nat → Int32) (z : Nat → Int32) (tn : Int32) : Ct l yX4_weight wsX4_weight ({ frames := 3, cells := 0, slots := 0, locals := 64 }) D (tyL cI cS) [.ref y, .int tn] [(y, .inr (4, [.ref nw, .ref ad, .ref pa, .int sn, .ref eA, .long hs])), (nw, .inl (cI, 39, .inl f)), (ad, .inl (cI, 39, .inl g)), (pa, .inl (cI, 195, .inl pf)), (eA, .inl (cI, 3, .inl z))] (some (.int ((s_X4_weight f z tn).1))) [(y, .inr (4, [.ref nw, .ref ad, .ref pa, .int sn, .ref eA, .long hs])), (nw, .inl (cI, 39, .inl f)), (ad, .inl (cI, 39, .inl g)), (pa, .inl (cI, 195, .inl pf)), (eA, .inl (cI, 3, .inl ((s_X4_weight f z tn).2)))] := by
  refine Ct.of (cc := cX4_weight) (maxL := 2) (ret := (some .int)) (by decide) rfl (Nat.le_of_ble_eq_true rfl) ?_
  intro p ev s m args below meth c A ls S hr hlk G hl
  have hx := S.1
  have hb := S.2.1
  have hown : s.vm.findClass RX4 = some m.cls := S.2.2.2.1
  have hts := S.2.2.2.2
  have hl : lv_has ls 2 [(0, .ref y), (1, .int tn)] := hl
  refine lv_aload_n hx hb dX4_weight_0 rfl (lv_at hl 0 rfl) ?_
  refine lv_iload_n hx hb dX4_weight_1 rfl (lv_at hl 1 rfl) ?_
  refine lv_iconst (v := 2) hx hb dX4_weight_2 (by decide) ?_
  refine k_callV (n := 2) (As := [.int tn, .int 2]) (rest := []) (st1 := [.int ((s_X4_valueOf_2 f z tn).1)]) (ws1 := [(y, .inr (4, [.ref nw, .ref ad, .ref pa, .int sn, .ref eA, .long hs])), (nw, .inl (cI, 39, .inl f)), (ad, .inl (cI, 39, .inl g)), (pa, .inl (cI, 195, .inl pf)), (eA, .inl (cI, 3, .inl ((s_X4_valueOf_2 f z tn).2)))]) S G (c_X4_valueOf_2 l D cI cS y nw ad pa eA sn hs f g pf z tn) gX4_weight_X4_valueOf rfl (by decide +kernel) ⟨⟨rfl, rfl⟩, Nat.le_of_ble_eq_true rfl, Nat.le_of_ble_eq_true rfl⟩ [0, 1, 2, 3, 4] (by decide) rfl [y, nw, ad, pa, eA] rfl rfl 0 rfl rfl rfl hl.1 rfl (Nat.le_of_ble_eq_true rfl) ⟨Nat.zero_le _, Nat.zero_le _⟩ dX4_weight_3 rfl rfl (fun H locs G => ?_)
  generalize hu1 : (s_X4_valueOf_2 f z tn) = u1 at G ⊢
  have es : (s_X4_weight f z tn) = (u1.1, u1.2) := by rw [s_X4_weight, hu1]
  exact k_iret S G hr hlk dX4_weight_6 (by first | (rw [es]; done) | (rw [es]; rfl) | (simp only [es]; done) | (simp only [es]; rfl)) (by first | (rw [es]; done) | (rw [es]; rfl) | (simp only [es]; done) | (simp only [es]; rfl))
def s_X4_valueOf_3 (f : Nat → Int32) (z : Nat → Int32) (tn : Int32) : Int32 × (Nat → Int32) := (if tn = 0 then ((f 7), z) else (if tn = 1 then ((f 12), z) else ((-2), (upd z 0 ((z 0) + 1)))))
set_option maxHeartbeats 4000000 in
set_option maxRecDepth 100000 in
theorem c_X4_valueOf_3 (l : Launch) (D : va_G) (cI cS : ClassId) (y : Nat) (nw : Nat) (ad : Nat) (pa : Nat) (eA : Nat) (sn : Int32) (hs : Int64) (f : Nat → Int32) (g : Nat → Int32) (pf : Nat → Int32) (z : Nat → Int32) (tn : Int32) : Ct l yX4_valueOf wsX4_valueOf ({ frames := 2, cells := 0, slots := 0, locals := 42 }) D (tyL cI cS) [.ref y, .int tn, .int 3] [(y, .inr (4, [.ref nw, .ref ad, .ref pa, .int sn, .ref eA, .long hs])), (nw, .inl (cI, 39, .inl f)), (ad, .inl (cI, 39, .inl g)), (pa, .inl (cI, 195, .inl pf)), (eA, .inl (cI, 3, .inl z))] (some (.int ((s_X4_valueOf_3 f z tn).1))) [(y, .inr (4, [.ref nw, .ref ad, .ref pa, .int sn, .ref eA, .long hs])), (nw, .inl (cI, 39, .inl f)), (ad, .inl (cI, 39, .inl g)), (pa, .inl (cI, 195, .inl pf)), (eA, .inl (cI, 3, .inl ((s_X4_valueOf_3 f z tn).2)))] := by
  refine Ct.of (cc := cX4_valueOf) (maxL := 3) (ret := (some .int)) (by decide) rfl (Nat.le_of_ble_eq_true rfl) ?_
  intro p ev s m args below meth c A ls S hr hlk G hl
  have hx := S.1
  have hb := S.2.1
  have hown : s.vm.findClass RX4 = some m.cls := S.2.2.2.1
  have hts := S.2.2.2.2
  have hl : lv_has ls 3 [(0, .ref y), (1, .int tn), (2, .int 3)] := hl
  have hiX4 : ∀ w ∈ wsX40, w ∈ wsX4_valueOf := by decide +kernel
  have hf7 := hts (.fieldLink RX4 7 "StrikingWorkModel" "now" "[I") (by decide +kernel)
  by_cases c_1 : tn = 0
  · skip
    have hl : lv_has ls 3 [(0, .ref y), (1, .int 0), (2, .int 3)] := by rw [c_1] at hl; exact hl
    refine lv_iload_n hx hb dX4_valueOf_0 rfl (lv_at hl 1 rfl) ?_
    refine k_callS (n := 1) (As := [.int 0]) (rest := []) (st1 := [.int 1]) (ws1 := [(y, .inr (4, [.ref nw, .ref ad, .ref pa, .int sn, .ref eA, .long hs])), (nw, .inl (cI, 39, .inl f)), (ad, .inl (cI, 39, .inl g)), (pa, .inl (cI, 195, .inl pf)), (eA, .inl (cI, 3, .inl z))]) S G (c_X4_isTrain l D cI cS 0) gX4_valueOf_X4_isTrain rfl (by decide +kernel) ⟨⟨rfl, rfl⟩, Nat.le_of_ble_eq_true rfl, Nat.le_of_ble_eq_true rfl⟩ [] (by decide) rfl [] rfl rfl rfl hl.1 rfl (Nat.le_of_ble_eq_true rfl) ⟨Nat.zero_le _, Nat.zero_le _⟩ dX4_valueOf_1 (congrArg (fun z => Value.int z :: []) (by decide : (s_X4_isTrain 0) = 1)) rfl (fun H locs G => ?_)
    refine lv_if_eq (tgt := 20) hx hb dX4_valueOf_4 (by decide) (fun c_2 => absurd c_2 (by decide)) (fun c_2 => ?_)
    refine lv_aload_n hx hb dX4_valueOf_7 rfl (lv_at hl 0 rfl) ?_
    refine k_get (v := .ref nw) S G 0 rfl rfl hiX4 0 (by decide) hf7 rfl dX4_valueOf_8 ?_
    refine lv_iload_n hx hb dX4_valueOf_11 rfl (lv_at hl 1 rfl) ?_
    refine lv_iload_n hx hb dX4_valueOf_12 rfl (lv_at hl 2 rfl) ?_
    refine k_callS (n := 2) (As := [.int 0, .int 3]) (rest := [.ref nw]) (st1 := [.int 7, .ref nw]) (ws1 := [(y, .inr (4, [.ref nw, .ref ad, .ref pa, .int sn, .ref eA, .long hs])), (nw, .inl (cI, 39, .inl f)), (ad, .inl (cI, 39, .inl g)), (pa, .inl (cI, 195, .inl pf)), (eA, .inl (cI, 3, .inl z))]) S G (c_X4_at l D cI cS 0 3) gX4_valueOf_X4_at rfl (by decide +kernel) ⟨⟨rfl, rfl⟩, Nat.le_of_ble_eq_true rfl, Nat.le_of_ble_eq_true rfl⟩ [] (by decide) rfl [] rfl rfl rfl hl.1 rfl (Nat.le_of_ble_eq_true rfl) ⟨Nat.zero_le _, Nat.zero_le _⟩ dX4_valueOf_13 (congrArg (fun z => Value.int z :: [.ref nw]) (by decide : (s_X4_at 0 3) = 7)) rfl (fun H locs G => ?_)
    refine k_iald (x := (f 7)) S G 1 0 rfl rfl (by unfold vp_in; decide) rfl dX4_valueOf_16 ?_
    refine lv_goto (tgt := 26) hx hb dX4_valueOf_17 (by decide) ?_
    have es : (s_X4_valueOf_3 f z tn) = ((f 7), z) := by rw [s_X4_valueOf_3, if_pos c_1]
    exact k_iret S G hr hlk dX4_valueOf_26 (by first | (rw [es]; done) | (rw [es]; rfl) | (simp only [es]; done) | (simp only [es]; rfl)) (by first | (rw [es]; done) | (rw [es]; rfl) | (simp only [es]; done) | (simp only [es]; rfl))
  · skip
    by_cases c_3 : tn = 1
    · skip
      have hl : lv_has ls 3 [(0, .ref y), (1, .int 1), (2, .int 3)] := by rw [c_3] at hl; exact hl
      refine lv_iload_n hx hb dX4_valueOf_0 rfl (lv_at hl 1 rfl) ?_
      refine k_callS (n := 1) (As := [.int 1]) (rest := []) (st1 := [.int 1]) (ws1 := [(y, .inr (4, [.ref nw, .ref ad, .ref pa, .int sn, .ref eA, .long hs])), (nw, .inl (cI, 39, .inl f)), (ad, .inl (cI, 39, .inl g)), (pa, .inl (cI, 195, .inl pf)), (eA, .inl (cI, 3, .inl z))]) S G (c_X4_isTrain l D cI cS 1) gX4_valueOf_X4_isTrain rfl (by decide +kernel) ⟨⟨rfl, rfl⟩, Nat.le_of_ble_eq_true rfl, Nat.le_of_ble_eq_true rfl⟩ [] (by decide) rfl [] rfl rfl rfl hl.1 rfl (Nat.le_of_ble_eq_true rfl) ⟨Nat.zero_le _, Nat.zero_le _⟩ dX4_valueOf_1 (congrArg (fun z => Value.int z :: []) (by decide : (s_X4_isTrain 1) = 1)) rfl (fun H locs G => ?_)
      refine lv_if_eq (tgt := 20) hx hb dX4_valueOf_4 (by decide) (fun c_4 => absurd c_4 (by decide)) (fun c_4 => ?_)
      refine lv_aload_n hx hb dX4_valueOf_7 rfl (lv_at hl 0 rfl) ?_
      refine k_get (v := .ref nw) S G 0 rfl rfl hiX4 0 (by decide) hf7 rfl dX4_valueOf_8 ?_
      refine lv_iload_n hx hb dX4_valueOf_11 rfl (lv_at hl 1 rfl) ?_
      refine lv_iload_n hx hb dX4_valueOf_12 rfl (lv_at hl 2 rfl) ?_
      refine k_callS (n := 2) (As := [.int 1, .int 3]) (rest := [.ref nw]) (st1 := [.int 12, .ref nw]) (ws1 := [(y, .inr (4, [.ref nw, .ref ad, .ref pa, .int sn, .ref eA, .long hs])), (nw, .inl (cI, 39, .inl f)), (ad, .inl (cI, 39, .inl g)), (pa, .inl (cI, 195, .inl pf)), (eA, .inl (cI, 3, .inl z))]) S G (c_X4_at l D cI cS 1 3) gX4_valueOf_X4_at rfl (by decide +kernel) ⟨⟨rfl, rfl⟩, Nat.le_of_ble_eq_true rfl, Nat.le_of_ble_eq_true rfl⟩ [] (by decide) rfl [] rfl rfl rfl hl.1 rfl (Nat.le_of_ble_eq_true rfl) ⟨Nat.zero_le _, Nat.zero_le _⟩ dX4_valueOf_13 (congrArg (fun z => Value.int z :: [.ref nw]) (by decide : (s_X4_at 1 3) = 12)) rfl (fun H locs G => ?_)
      refine k_iald (x := (f 12)) S G 1 0 rfl rfl (by unfold vp_in; decide) rfl dX4_valueOf_16 ?_
      refine lv_goto (tgt := 26) hx hb dX4_valueOf_17 (by decide) ?_
      have es : (s_X4_valueOf_3 f z tn) = ((f 12), z) := by rw [s_X4_valueOf_3, if_neg c_1, if_pos c_3]
      exact k_iret S G hr hlk dX4_valueOf_26 (by first | (rw [es]; done) | (rw [es]; rfl) | (simp only [es]; done) | (simp only [es]; rfl)) (by first | (rw [es]; done) | (rw [es]; rfl) | (simp only [es]; done) | (simp only [es]; rfl))
    · skip
      refine lv_iload_n hx hb dX4_valueOf_0 rfl (lv_at hl 1 rfl) ?_
      refine k_callS (n := 1) (As := [.int tn]) (rest := []) (st1 := [.int 0]) (ws1 := [(y, .inr (4, [.ref nw, .ref ad, .ref pa, .int sn, .ref eA, .long hs])), (nw, .inl (cI, 39, .inl f)), (ad, .inl (cI, 39, .inl g)), (pa, .inl (cI, 195, .inl pf)), (eA, .inl (cI, 3, .inl z))]) S G (c_X4_isTrain l D cI cS tn) gX4_valueOf_X4_isTrain rfl (by decide +kernel) ⟨⟨rfl, rfl⟩, Nat.le_of_ble_eq_true rfl, Nat.le_of_ble_eq_true rfl⟩ [] (by decide) rfl [] rfl rfl rfl hl.1 rfl (Nat.le_of_ble_eq_true rfl) ⟨Nat.zero_le _, Nat.zero_le _⟩ dX4_valueOf_1 (congrArg (fun z => Value.int z :: []) (X4_isTrain_else c_1 c_3)) rfl (fun H locs G => ?_)
      refine lv_if_eq (tgt := 20) hx hb dX4_valueOf_4 (by decide) (fun c_5 => ?_) (fun c_5 => absurd c_5 (by decide))
      refine lv_aload_n hx hb dX4_valueOf_20 rfl (lv_at hl 0 rfl) ?_
      refine lv_bipush (v := (-2)) hx hb dX4_valueOf_21 (by decide) ?_
      refine k_callV (n := 1) (As := [.int (-2)]) (rest := []) (st1 := [.int (-2)]) (ws1 := [(y, .inr (4, [.ref nw, .ref ad, .ref pa, .int sn, .ref eA, .long hs])), (nw, .inl (cI, 39, .inl f)), (ad, .inl (cI, 39, .inl g)), (pa, .inl (cI, 195, .inl pf)), (eA, .inl (cI, 3, .inl (upd z 0 ((z 0) + 1))))]) S G (c_X4_error_2 l D cI cS y nw ad pa eA sn hs f g pf z) gX4_valueOf_X4_error rfl (by decide +kernel) ⟨⟨rfl, rfl⟩, Nat.le_of_ble_eq_true rfl, Nat.le_of_ble_eq_true rfl⟩ [0, 1, 2, 3, 4] (by decide) rfl [y, nw, ad, pa, eA] rfl rfl 0 rfl rfl rfl hl.1 rfl (Nat.le_of_ble_eq_true rfl) ⟨Nat.zero_le _, Nat.zero_le _⟩ dX4_valueOf_23 rfl rfl (fun H locs G => ?_)
      have es : (s_X4_valueOf_3 f z tn) = ((-2), (upd z 0 ((z 0) + 1))) := by rw [s_X4_valueOf_3, if_neg c_1, if_neg c_3]
      exact k_iret S G hr hlk dX4_valueOf_26 (by first | (rw [es]; done) | (rw [es]; rfl) | (simp only [es]; done) | (simp only [es]; rfl)) (by first | (rw [es]; done) | (rw [es]; rfl) | (simp only [es]; done) | (simp only [es]; rfl))
def s_X4_sounded (f : Nat → Int32) (z : Nat → Int32) (tn : Int32) : Int32 × (Nat → Int32) := ((s_X4_valueOf_3 f z tn).1, (s_X4_valueOf_3 f z tn).2)
set_option maxHeartbeats 4000000 in
set_option maxRecDepth 100000 in
theorem c_X4_sounded (l : Launch) (D : va_G) (cI cS : ClassId) (y : Nat) (nw : Nat) (ad : Nat) (pa : Nat) (eA : Nat) (sn : Int32) (hs : Int64) (f : Nat → Int32) (g : Nat → Int32) (pf : Nat → Int32) (z : Nat → Int32) (tn : Int32) : Ct l yX4_sounded wsX4_sounded ({ frames := 3, cells := 0, slots := 0, locals := 64 }) D (tyL cI cS) [.ref y, .int tn] [(y, .inr (4, [.ref nw, .ref ad, .ref pa, .int sn, .ref eA, .long hs])), (nw, .inl (cI, 39, .inl f)), (ad, .inl (cI, 39, .inl g)), (pa, .inl (cI, 195, .inl pf)), (eA, .inl (cI, 3, .inl z))] (some (.int ((s_X4_sounded f z tn).1))) [(y, .inr (4, [.ref nw, .ref ad, .ref pa, .int sn, .ref eA, .long hs])), (nw, .inl (cI, 39, .inl f)), (ad, .inl (cI, 39, .inl g)), (pa, .inl (cI, 195, .inl pf)), (eA, .inl (cI, 3, .inl ((s_X4_sounded f z tn).2)))] := by
  refine Ct.of (cc := cX4_sounded) (maxL := 2) (ret := (some .int)) (by decide) rfl (Nat.le_of_ble_eq_true rfl) ?_
  intro p ev s m args below meth c A ls S hr hlk G hl
  have hx := S.1
  have hb := S.2.1
  have hown : s.vm.findClass RX4 = some m.cls := S.2.2.2.1
  have hts := S.2.2.2.2
  have hl : lv_has ls 2 [(0, .ref y), (1, .int tn)] := hl
  refine lv_aload_n hx hb dX4_sounded_0 rfl (lv_at hl 0 rfl) ?_
  refine lv_iload_n hx hb dX4_sounded_1 rfl (lv_at hl 1 rfl) ?_
  refine lv_iconst (v := 3) hx hb dX4_sounded_2 (by decide) ?_
  refine k_callV (n := 2) (As := [.int tn, .int 3]) (rest := []) (st1 := [.int ((s_X4_valueOf_3 f z tn).1)]) (ws1 := [(y, .inr (4, [.ref nw, .ref ad, .ref pa, .int sn, .ref eA, .long hs])), (nw, .inl (cI, 39, .inl f)), (ad, .inl (cI, 39, .inl g)), (pa, .inl (cI, 195, .inl pf)), (eA, .inl (cI, 3, .inl ((s_X4_valueOf_3 f z tn).2)))]) S G (c_X4_valueOf_3 l D cI cS y nw ad pa eA sn hs f g pf z tn) gX4_sounded_X4_valueOf rfl (by decide +kernel) ⟨⟨rfl, rfl⟩, Nat.le_of_ble_eq_true rfl, Nat.le_of_ble_eq_true rfl⟩ [0, 1, 2, 3, 4] (by decide) rfl [y, nw, ad, pa, eA] rfl rfl 0 rfl rfl rfl hl.1 rfl (Nat.le_of_ble_eq_true rfl) ⟨Nat.zero_le _, Nat.zero_le _⟩ dX4_sounded_3 rfl rfl (fun H locs G => ?_)
  generalize hu1 : (s_X4_valueOf_3 f z tn) = u1 at G ⊢
  have es : (s_X4_sounded f z tn) = (u1.1, u1.2) := by rw [s_X4_sounded, hu1]
  exact k_iret S G hr hlk dX4_sounded_6 (by first | (rw [es]; done) | (rw [es]; rfl) | (simp only [es]; done) | (simp only [es]; rfl)) (by first | (rw [es]; done) | (rw [es]; rfl) | (simp only [es]; done) | (simp only [es]; rfl))
def s_X4_valueOf_4 (f : Nat → Int32) (z : Nat → Int32) (tn : Int32) : Int32 × (Nat → Int32) := (if tn = 0 then ((f 8), z) else (if tn = 1 then ((f 13), z) else ((-2), (upd z 0 ((z 0) + 1)))))
set_option maxHeartbeats 4000000 in
set_option maxRecDepth 100000 in
theorem c_X4_valueOf_4 (l : Launch) (D : va_G) (cI cS : ClassId) (y : Nat) (nw : Nat) (ad : Nat) (pa : Nat) (eA : Nat) (sn : Int32) (hs : Int64) (f : Nat → Int32) (g : Nat → Int32) (pf : Nat → Int32) (z : Nat → Int32) (tn : Int32) : Ct l yX4_valueOf wsX4_valueOf ({ frames := 2, cells := 0, slots := 0, locals := 42 }) D (tyL cI cS) [.ref y, .int tn, .int 4] [(y, .inr (4, [.ref nw, .ref ad, .ref pa, .int sn, .ref eA, .long hs])), (nw, .inl (cI, 39, .inl f)), (ad, .inl (cI, 39, .inl g)), (pa, .inl (cI, 195, .inl pf)), (eA, .inl (cI, 3, .inl z))] (some (.int ((s_X4_valueOf_4 f z tn).1))) [(y, .inr (4, [.ref nw, .ref ad, .ref pa, .int sn, .ref eA, .long hs])), (nw, .inl (cI, 39, .inl f)), (ad, .inl (cI, 39, .inl g)), (pa, .inl (cI, 195, .inl pf)), (eA, .inl (cI, 3, .inl ((s_X4_valueOf_4 f z tn).2)))] := by
  refine Ct.of (cc := cX4_valueOf) (maxL := 3) (ret := (some .int)) (by decide) rfl (Nat.le_of_ble_eq_true rfl) ?_
  intro p ev s m args below meth c A ls S hr hlk G hl
  have hx := S.1
  have hb := S.2.1
  have hown : s.vm.findClass RX4 = some m.cls := S.2.2.2.1
  have hts := S.2.2.2.2
  have hl : lv_has ls 3 [(0, .ref y), (1, .int tn), (2, .int 4)] := hl
  have hiX4 : ∀ w ∈ wsX40, w ∈ wsX4_valueOf := by decide +kernel
  have hf7 := hts (.fieldLink RX4 7 "StrikingWorkModel" "now" "[I") (by decide +kernel)
  by_cases c_1 : tn = 0
  · skip
    have hl : lv_has ls 3 [(0, .ref y), (1, .int 0), (2, .int 4)] := by rw [c_1] at hl; exact hl
    refine lv_iload_n hx hb dX4_valueOf_0 rfl (lv_at hl 1 rfl) ?_
    refine k_callS (n := 1) (As := [.int 0]) (rest := []) (st1 := [.int 1]) (ws1 := [(y, .inr (4, [.ref nw, .ref ad, .ref pa, .int sn, .ref eA, .long hs])), (nw, .inl (cI, 39, .inl f)), (ad, .inl (cI, 39, .inl g)), (pa, .inl (cI, 195, .inl pf)), (eA, .inl (cI, 3, .inl z))]) S G (c_X4_isTrain l D cI cS 0) gX4_valueOf_X4_isTrain rfl (by decide +kernel) ⟨⟨rfl, rfl⟩, Nat.le_of_ble_eq_true rfl, Nat.le_of_ble_eq_true rfl⟩ [] (by decide) rfl [] rfl rfl rfl hl.1 rfl (Nat.le_of_ble_eq_true rfl) ⟨Nat.zero_le _, Nat.zero_le _⟩ dX4_valueOf_1 (congrArg (fun z => Value.int z :: []) (by decide : (s_X4_isTrain 0) = 1)) rfl (fun H locs G => ?_)
    refine lv_if_eq (tgt := 20) hx hb dX4_valueOf_4 (by decide) (fun c_2 => absurd c_2 (by decide)) (fun c_2 => ?_)
    refine lv_aload_n hx hb dX4_valueOf_7 rfl (lv_at hl 0 rfl) ?_
    refine k_get (v := .ref nw) S G 0 rfl rfl hiX4 0 (by decide) hf7 rfl dX4_valueOf_8 ?_
    refine lv_iload_n hx hb dX4_valueOf_11 rfl (lv_at hl 1 rfl) ?_
    refine lv_iload_n hx hb dX4_valueOf_12 rfl (lv_at hl 2 rfl) ?_
    refine k_callS (n := 2) (As := [.int 0, .int 4]) (rest := [.ref nw]) (st1 := [.int 8, .ref nw]) (ws1 := [(y, .inr (4, [.ref nw, .ref ad, .ref pa, .int sn, .ref eA, .long hs])), (nw, .inl (cI, 39, .inl f)), (ad, .inl (cI, 39, .inl g)), (pa, .inl (cI, 195, .inl pf)), (eA, .inl (cI, 3, .inl z))]) S G (c_X4_at l D cI cS 0 4) gX4_valueOf_X4_at rfl (by decide +kernel) ⟨⟨rfl, rfl⟩, Nat.le_of_ble_eq_true rfl, Nat.le_of_ble_eq_true rfl⟩ [] (by decide) rfl [] rfl rfl rfl hl.1 rfl (Nat.le_of_ble_eq_true rfl) ⟨Nat.zero_le _, Nat.zero_le _⟩ dX4_valueOf_13 (congrArg (fun z => Value.int z :: [.ref nw]) (by decide : (s_X4_at 0 4) = 8)) rfl (fun H locs G => ?_)
    refine k_iald (x := (f 8)) S G 1 0 rfl rfl (by unfold vp_in; decide) rfl dX4_valueOf_16 ?_
    refine lv_goto (tgt := 26) hx hb dX4_valueOf_17 (by decide) ?_
    have es : (s_X4_valueOf_4 f z tn) = ((f 8), z) := by rw [s_X4_valueOf_4, if_pos c_1]
    exact k_iret S G hr hlk dX4_valueOf_26 (by first | (rw [es]; done) | (rw [es]; rfl) | (simp only [es]; done) | (simp only [es]; rfl)) (by first | (rw [es]; done) | (rw [es]; rfl) | (simp only [es]; done) | (simp only [es]; rfl))
  · skip
    by_cases c_3 : tn = 1
    · skip
      have hl : lv_has ls 3 [(0, .ref y), (1, .int 1), (2, .int 4)] := by rw [c_3] at hl; exact hl
      refine lv_iload_n hx hb dX4_valueOf_0 rfl (lv_at hl 1 rfl) ?_
      refine k_callS (n := 1) (As := [.int 1]) (rest := []) (st1 := [.int 1]) (ws1 := [(y, .inr (4, [.ref nw, .ref ad, .ref pa, .int sn, .ref eA, .long hs])), (nw, .inl (cI, 39, .inl f)), (ad, .inl (cI, 39, .inl g)), (pa, .inl (cI, 195, .inl pf)), (eA, .inl (cI, 3, .inl z))]) S G (c_X4_isTrain l D cI cS 1) gX4_valueOf_X4_isTrain rfl (by decide +kernel) ⟨⟨rfl, rfl⟩, Nat.le_of_ble_eq_true rfl, Nat.le_of_ble_eq_true rfl⟩ [] (by decide) rfl [] rfl rfl rfl hl.1 rfl (Nat.le_of_ble_eq_true rfl) ⟨Nat.zero_le _, Nat.zero_le _⟩ dX4_valueOf_1 (congrArg (fun z => Value.int z :: []) (by decide : (s_X4_isTrain 1) = 1)) rfl (fun H locs G => ?_)
      refine lv_if_eq (tgt := 20) hx hb dX4_valueOf_4 (by decide) (fun c_4 => absurd c_4 (by decide)) (fun c_4 => ?_)
      refine lv_aload_n hx hb dX4_valueOf_7 rfl (lv_at hl 0 rfl) ?_
      refine k_get (v := .ref nw) S G 0 rfl rfl hiX4 0 (by decide) hf7 rfl dX4_valueOf_8 ?_
      refine lv_iload_n hx hb dX4_valueOf_11 rfl (lv_at hl 1 rfl) ?_
      refine lv_iload_n hx hb dX4_valueOf_12 rfl (lv_at hl 2 rfl) ?_
      refine k_callS (n := 2) (As := [.int 1, .int 4]) (rest := [.ref nw]) (st1 := [.int 13, .ref nw]) (ws1 := [(y, .inr (4, [.ref nw, .ref ad, .ref pa, .int sn, .ref eA, .long hs])), (nw, .inl (cI, 39, .inl f)), (ad, .inl (cI, 39, .inl g)), (pa, .inl (cI, 195, .inl pf)), (eA, .inl (cI, 3, .inl z))]) S G (c_X4_at l D cI cS 1 4) gX4_valueOf_X4_at rfl (by decide +kernel) ⟨⟨rfl, rfl⟩, Nat.le_of_ble_eq_true rfl, Nat.le_of_ble_eq_true rfl⟩ [] (by decide) rfl [] rfl rfl rfl hl.1 rfl (Nat.le_of_ble_eq_true rfl) ⟨Nat.zero_le _, Nat.zero_le _⟩ dX4_valueOf_13 (congrArg (fun z => Value.int z :: [.ref nw]) (by decide : (s_X4_at 1 4) = 13)) rfl (fun H locs G => ?_)
      refine k_iald (x := (f 13)) S G 1 0 rfl rfl (by unfold vp_in; decide) rfl dX4_valueOf_16 ?_
      refine lv_goto (tgt := 26) hx hb dX4_valueOf_17 (by decide) ?_
      have es : (s_X4_valueOf_4 f z tn) = ((f 13), z) := by rw [s_X4_valueOf_4, if_neg c_1, if_pos c_3]
      exact k_iret S G hr hlk dX4_valueOf_26 (by first | (rw [es]; done) | (rw [es]; rfl) | (simp only [es]; done) | (simp only [es]; rfl)) (by first | (rw [es]; done) | (rw [es]; rfl) | (simp only [es]; done) | (simp only [es]; rfl))
    · skip
      refine lv_iload_n hx hb dX4_valueOf_0 rfl (lv_at hl 1 rfl) ?_
      refine k_callS (n := 1) (As := [.int tn]) (rest := []) (st1 := [.int 0]) (ws1 := [(y, .inr (4, [.ref nw, .ref ad, .ref pa, .int sn, .ref eA, .long hs])), (nw, .inl (cI, 39, .inl f)), (ad, .inl (cI, 39, .inl g)), (pa, .inl (cI, 195, .inl pf)), (eA, .inl (cI, 3, .inl z))]) S G (c_X4_isTrain l D cI cS tn) gX4_valueOf_X4_isTrain rfl (by decide +kernel) ⟨⟨rfl, rfl⟩, Nat.le_of_ble_eq_true rfl, Nat.le_of_ble_eq_true rfl⟩ [] (by decide) rfl [] rfl rfl rfl hl.1 rfl (Nat.le_of_ble_eq_true rfl) ⟨Nat.zero_le _, Nat.zero_le _⟩ dX4_valueOf_1 (congrArg (fun z => Value.int z :: []) (X4_isTrain_else c_1 c_3)) rfl (fun H locs G => ?_)
      refine lv_if_eq (tgt := 20) hx hb dX4_valueOf_4 (by decide) (fun c_5 => ?_) (fun c_5 => absurd c_5 (by decide))
      refine lv_aload_n hx hb dX4_valueOf_20 rfl (lv_at hl 0 rfl) ?_
      refine lv_bipush (v := (-2)) hx hb dX4_valueOf_21 (by decide) ?_
      refine k_callV (n := 1) (As := [.int (-2)]) (rest := []) (st1 := [.int (-2)]) (ws1 := [(y, .inr (4, [.ref nw, .ref ad, .ref pa, .int sn, .ref eA, .long hs])), (nw, .inl (cI, 39, .inl f)), (ad, .inl (cI, 39, .inl g)), (pa, .inl (cI, 195, .inl pf)), (eA, .inl (cI, 3, .inl (upd z 0 ((z 0) + 1))))]) S G (c_X4_error_2 l D cI cS y nw ad pa eA sn hs f g pf z) gX4_valueOf_X4_error rfl (by decide +kernel) ⟨⟨rfl, rfl⟩, Nat.le_of_ble_eq_true rfl, Nat.le_of_ble_eq_true rfl⟩ [0, 1, 2, 3, 4] (by decide) rfl [y, nw, ad, pa, eA] rfl rfl 0 rfl rfl rfl hl.1 rfl (Nat.le_of_ble_eq_true rfl) ⟨Nat.zero_le _, Nat.zero_le _⟩ dX4_valueOf_23 rfl rfl (fun H locs G => ?_)
      have es : (s_X4_valueOf_4 f z tn) = ((-2), (upd z 0 ((z 0) + 1))) := by rw [s_X4_valueOf_4, if_neg c_1, if_neg c_3]
      exact k_iret S G hr hlk dX4_valueOf_26 (by first | (rw [es]; done) | (rw [es]; rfl) | (simp only [es]; done) | (simp only [es]; rfl)) (by first | (rw [es]; done) | (rw [es]; rfl) | (simp only [es]; done) | (simp only [es]; rfl))
def s_X4_missed (f : Nat → Int32) (z : Nat → Int32) (tn : Int32) : Int32 × (Nat → Int32) := ((s_X4_valueOf_4 f z tn).1, (s_X4_valueOf_4 f z tn).2)
set_option maxHeartbeats 4000000 in
set_option maxRecDepth 100000 in
theorem c_X4_missed (l : Launch) (D : va_G) (cI cS : ClassId) (y : Nat) (nw : Nat) (ad : Nat) (pa : Nat) (eA : Nat) (sn : Int32) (hs : Int64) (f : Nat → Int32) (g : Nat → Int32) (pf : Nat → Int32) (z : Nat → Int32) (tn : Int32) : Ct l yX4_missed wsX4_missed ({ frames := 3, cells := 0, slots := 0, locals := 64 }) D (tyL cI cS) [.ref y, .int tn] [(y, .inr (4, [.ref nw, .ref ad, .ref pa, .int sn, .ref eA, .long hs])), (nw, .inl (cI, 39, .inl f)), (ad, .inl (cI, 39, .inl g)), (pa, .inl (cI, 195, .inl pf)), (eA, .inl (cI, 3, .inl z))] (some (.int ((s_X4_missed f z tn).1))) [(y, .inr (4, [.ref nw, .ref ad, .ref pa, .int sn, .ref eA, .long hs])), (nw, .inl (cI, 39, .inl f)), (ad, .inl (cI, 39, .inl g)), (pa, .inl (cI, 195, .inl pf)), (eA, .inl (cI, 3, .inl ((s_X4_missed f z tn).2)))] := by
  refine Ct.of (cc := cX4_missed) (maxL := 2) (ret := (some .int)) (by decide) rfl (Nat.le_of_ble_eq_true rfl) ?_
  intro p ev s m args below meth c A ls S hr hlk G hl
  have hx := S.1
  have hb := S.2.1
  have hown : s.vm.findClass RX4 = some m.cls := S.2.2.2.1
  have hts := S.2.2.2.2
  have hl : lv_has ls 2 [(0, .ref y), (1, .int tn)] := hl
  refine lv_aload_n hx hb dX4_missed_0 rfl (lv_at hl 0 rfl) ?_
  refine lv_iload_n hx hb dX4_missed_1 rfl (lv_at hl 1 rfl) ?_
  refine lv_iconst (v := 4) hx hb dX4_missed_2 (by decide) ?_
  refine k_callV (n := 2) (As := [.int tn, .int 4]) (rest := []) (st1 := [.int ((s_X4_valueOf_4 f z tn).1)]) (ws1 := [(y, .inr (4, [.ref nw, .ref ad, .ref pa, .int sn, .ref eA, .long hs])), (nw, .inl (cI, 39, .inl f)), (ad, .inl (cI, 39, .inl g)), (pa, .inl (cI, 195, .inl pf)), (eA, .inl (cI, 3, .inl ((s_X4_valueOf_4 f z tn).2)))]) S G (c_X4_valueOf_4 l D cI cS y nw ad pa eA sn hs f g pf z tn) gX4_missed_X4_valueOf rfl (by decide +kernel) ⟨⟨rfl, rfl⟩, Nat.le_of_ble_eq_true rfl, Nat.le_of_ble_eq_true rfl⟩ [0, 1, 2, 3, 4] (by decide) rfl [y, nw, ad, pa, eA] rfl rfl 0 rfl rfl rfl hl.1 rfl (Nat.le_of_ble_eq_true rfl) ⟨Nat.zero_le _, Nat.zero_le _⟩ dX4_missed_3 rfl rfl (fun H locs G => ?_)
  generalize hu1 : (s_X4_valueOf_4 f z tn) = u1 at G ⊢
  have es : (s_X4_missed f z tn) = (u1.1, u1.2) := by rw [s_X4_missed, hu1]
  exact k_iret S G hr hlk dX4_missed_6 (by first | (rw [es]; done) | (rw [es]; rfl) | (simp only [es]; done) | (simp only [es]; rfl)) (by first | (rw [es]; done) | (rw [es]; rfl) | (simp only [es]; done) | (simp only [es]; rfl))
def s_X4_isSilent (f : Nat → Int32) (z : Nat → Int32) (q : Int32) : Int32 × (Nat → Int32) := (if (s_X4_in q 0 1439) = 0 then ((-2), (upd z 0 ((z 0) + 1))) else (if (s_X4_silentAt f q) = 0 then (0, z) else (1, z)))
set_option maxHeartbeats 4000000 in
set_option maxRecDepth 100000 in
theorem c_X4_isSilent (l : Launch) (D : va_G) (cI cS : ClassId) (y : Nat) (nw : Nat) (ad : Nat) (pa : Nat) (eA : Nat) (sn : Int32) (hs : Int64) (f : Nat → Int32) (g : Nat → Int32) (pf : Nat → Int32) (z : Nat → Int32) (q : Int32) : Ct l yX4_isSilent wsX4_isSilent ({ frames := 1, cells := 0, slots := 0, locals := 23 }) D (tyL cI cS) [.ref y, .int q] [(y, .inr (4, [.ref nw, .ref ad, .ref pa, .int sn, .ref eA, .long hs])), (nw, .inl (cI, 39, .inl f)), (ad, .inl (cI, 39, .inl g)), (pa, .inl (cI, 195, .inl pf)), (eA, .inl (cI, 3, .inl z))] (some (.int ((s_X4_isSilent f z q).1))) [(y, .inr (4, [.ref nw, .ref ad, .ref pa, .int sn, .ref eA, .long hs])), (nw, .inl (cI, 39, .inl f)), (ad, .inl (cI, 39, .inl g)), (pa, .inl (cI, 195, .inl pf)), (eA, .inl (cI, 3, .inl ((s_X4_isSilent f z q).2)))] := by
  refine Ct.of (cc := cX4_isSilent) (maxL := 2) (ret := (some .int)) (by decide) rfl (Nat.le_of_ble_eq_true rfl) ?_
  intro p ev s m args below meth c A ls S hr hlk G hl
  have hx := S.1
  have hb := S.2.1
  have hown : s.vm.findClass RX4 = some m.cls := S.2.2.2.1
  have hts := S.2.2.2.2
  have hl : lv_has ls 2 [(0, .ref y), (1, .int q)] := hl
  refine lv_iload_n hx hb dX4_isSilent_0 rfl (lv_at hl 1 rfl) ?_
  refine lv_iconst (v := 0) hx hb dX4_isSilent_1 (by decide) ?_
  refine lv_sipush (v := 1439) hx hb dX4_isSilent_2 (by decide) ?_
  refine k_callS (n := 3) (As := [.int q, .int 0, .int 1439]) (rest := []) (st1 := [.int (s_X4_in q 0 1439)]) (ws1 := [(y, .inr (4, [.ref nw, .ref ad, .ref pa, .int sn, .ref eA, .long hs])), (nw, .inl (cI, 39, .inl f)), (ad, .inl (cI, 39, .inl g)), (pa, .inl (cI, 195, .inl pf)), (eA, .inl (cI, 3, .inl z))]) S G (c_X4_in l D cI cS q 0 1439) gX4_isSilent_X4_in rfl (by decide +kernel) ⟨⟨rfl, rfl⟩, Nat.le_of_ble_eq_true rfl, Nat.le_of_ble_eq_true rfl⟩ [] (by decide) rfl [] rfl rfl rfl hl.1 rfl (Nat.le_of_ble_eq_true rfl) ⟨Nat.zero_le _, Nat.zero_le _⟩ dX4_isSilent_5 rfl rfl (fun H locs G => ?_)
  refine lv_if_ne (tgt := 20) hx hb dX4_isSilent_8 (by decide) (fun c_1 => ?_) (fun c_1 => ?_)
  · skip
    refine lv_aload_n hx hb dX4_isSilent_20 rfl (lv_at hl 0 rfl) ?_
    refine lv_iload_n hx hb dX4_isSilent_21 rfl (lv_at hl 1 rfl) ?_
    refine k_callV (n := 1) (As := [.int q]) (rest := []) (st1 := [.int (s_X4_silentAt f q)]) (ws1 := [(y, .inr (4, [.ref nw, .ref ad, .ref pa, .int sn, .ref eA, .long hs])), (nw, .inl (cI, 39, .inl f)), (ad, .inl (cI, 39, .inl g)), (pa, .inl (cI, 195, .inl pf)), (eA, .inl (cI, 3, .inl z))]) S G (c_X4_silentAt l D cI cS y nw ad pa eA sn hs f g pf z q) gX4_isSilent_X4_silentAt rfl (by decide +kernel) ⟨⟨rfl, rfl⟩, Nat.le_of_ble_eq_true rfl, Nat.le_of_ble_eq_true rfl⟩ [0, 1, 2, 3, 4] (by decide) rfl [y, nw, ad, pa, eA] rfl rfl 0 rfl rfl rfl hl.1 rfl (Nat.le_of_ble_eq_true rfl) ⟨Nat.zero_le _, Nat.zero_le _⟩ dX4_isSilent_22 rfl rfl (fun H locs G => ?_)
    refine lv_if_eq (tgt := 32) hx hb dX4_isSilent_25 (by decide) (fun c_2 => ?_) (fun c_2 => ?_)
    · skip
      refine lv_iconst (v := 0) hx hb dX4_isSilent_32 (by decide) ?_
      have es : (s_X4_isSilent f z q) = (0, z) := by rw [s_X4_isSilent, if_neg c_1, if_pos c_2]
      exact k_iret S G hr hlk dX4_isSilent_33 (by first | (rw [es]; done) | (rw [es]; rfl) | (simp only [es]; done) | (simp only [es]; rfl)) (by first | (rw [es]; done) | (rw [es]; rfl) | (simp only [es]; done) | (simp only [es]; rfl))
    · skip
      refine lv_iconst (v := 1) hx hb dX4_isSilent_28 (by decide) ?_
      refine lv_goto (tgt := 33) hx hb dX4_isSilent_29 (by decide) ?_
      have es : (s_X4_isSilent f z q) = (1, z) := by rw [s_X4_isSilent, if_neg c_1, if_neg c_2]
      exact k_iret S G hr hlk dX4_isSilent_33 (by first | (rw [es]; done) | (rw [es]; rfl) | (simp only [es]; done) | (simp only [es]; rfl)) (by first | (rw [es]; done) | (rw [es]; rfl) | (simp only [es]; done) | (simp only [es]; rfl))
  · skip
    refine lv_aload_n hx hb dX4_isSilent_11 rfl (lv_at hl 0 rfl) ?_
    refine lv_bipush (v := (-2)) hx hb dX4_isSilent_12 (by decide) ?_
    refine k_callV (n := 1) (As := [.int (-2)]) (rest := []) (st1 := [.int (-2)]) (ws1 := [(y, .inr (4, [.ref nw, .ref ad, .ref pa, .int sn, .ref eA, .long hs])), (nw, .inl (cI, 39, .inl f)), (ad, .inl (cI, 39, .inl g)), (pa, .inl (cI, 195, .inl pf)), (eA, .inl (cI, 3, .inl (upd z 0 ((z 0) + 1))))]) S G (c_X4_error_2 l D cI cS y nw ad pa eA sn hs f g pf z) gX4_isSilent_X4_error rfl (by decide +kernel) ⟨⟨rfl, rfl⟩, Nat.le_of_ble_eq_true rfl, Nat.le_of_ble_eq_true rfl⟩ [0, 1, 2, 3, 4] (by decide) rfl [y, nw, ad, pa, eA] rfl rfl 0 rfl rfl rfl hl.1 rfl (Nat.le_of_ble_eq_true rfl) ⟨Nat.zero_le _, Nat.zero_le _⟩ dX4_isSilent_14 rfl rfl (fun H locs G => ?_)
    refine lv_goto (tgt := 33) hx hb dX4_isSilent_17 (by decide) ?_
    have es : (s_X4_isSilent f z q) = ((-2), (upd z 0 ((z 0) + 1))) := by rw [s_X4_isSilent, if_pos c_1]
    exact k_iret S G hr hlk dX4_isSilent_33 (by first | (rw [es]; done) | (rw [es]; rfl) | (simp only [es]; done) | (simp only [es]; rfl)) (by first | (rw [es]; done) | (rw [es]; rfl) | (simp only [es]; done) | (simp only [es]; rfl))
theorem in_ent {q cn : Int32} (w : Nat) (hw : w ≤ 2) (h0 : 0 ≤ q) (h2 : ¬ cn ≤ q) (hc : cnOk cn) : vp_in ((15 + (4 * q)) + nI w) 39 := by
  obtain ⟨N, hN, rfl⟩ := cnOk_nat hc
  obtain ⟨j, hj, rfl⟩ := nI_of (Int32.not_lt.mpr h0)
  have h3 : ¬ N ≤ j := fun z => h2 (nI_le z hj)
  have e : (15 + (4 * nI j)) + nI w = nI (15 + 4 * j + w) := by
    have e1 : (4 : Int32) * nI j = nI (4 * j) := pk_mul 4 j
    have e2 : (15 : Int32) + nI (4 * j) = nI (15 + 4 * j) := nI_add 15 (4 * j)
    rw [e1, e2, nI_add]
  rw [e]
  exact vp_in_nI (by omega) (by decide)
def s_X4_entry_0 (f : Nat → Int32) (z : Nat → Int32) (q : Int32) : Int32 × (Nat → Int32) := (if 0 ≤ q then (if (f 14) ≤ q then ((-1), z) else ((f (((15 + (4 * q)) + 0).toNatClampNeg)), z)) else ((-2), (upd z 0 ((z 0) + 1))))
set_option maxHeartbeats 4000000 in
set_option maxRecDepth 100000 in
theorem c_X4_entry_0 (l : Launch) (D : va_G) (cI cS : ClassId) (y : Nat) (nw : Nat) (ad : Nat) (pa : Nat) (eA : Nat) (sn : Int32) (hs : Int64) (f : Nat → Int32) (g : Nat → Int32) (pf : Nat → Int32) (z : Nat → Int32) (q : Int32) (hcn : cnOk (f 14)) : Ct l yX4_entry wsX4_entry ({ frames := 1, cells := 0, slots := 0, locals := 21 }) D (tyL cI cS) [.ref y, .int q, .int 0, .int (-1)] [(y, .inr (4, [.ref nw, .ref ad, .ref pa, .int sn, .ref eA, .long hs])), (nw, .inl (cI, 39, .inl f)), (ad, .inl (cI, 39, .inl g)), (pa, .inl (cI, 195, .inl pf)), (eA, .inl (cI, 3, .inl z))] (some (.int ((s_X4_entry_0 f z q).1))) [(y, .inr (4, [.ref nw, .ref ad, .ref pa, .int sn, .ref eA, .long hs])), (nw, .inl (cI, 39, .inl f)), (ad, .inl (cI, 39, .inl g)), (pa, .inl (cI, 195, .inl pf)), (eA, .inl (cI, 3, .inl ((s_X4_entry_0 f z q).2)))] := by
  refine Ct.of (cc := cX4_entry) (maxL := 4) (ret := (some .int)) (by decide) rfl (Nat.le_of_ble_eq_true rfl) ?_
  intro p ev s m args below meth c A ls S hr hlk G hl
  have hx := S.1
  have hb := S.2.1
  have hown : s.vm.findClass RX4 = some m.cls := S.2.2.2.1
  have hts := S.2.2.2.2
  have hl : lv_has ls 4 [(0, .ref y), (1, .int q), (2, .int 0), (3, .int (-1))] := hl
  have hiX4 : ∀ w ∈ wsX40, w ∈ wsX4_entry := by decide +kernel
  have hf7 := hts (.fieldLink RX4 7 "StrikingWorkModel" "now" "[I") (by decide +kernel)
  refine lv_iload_n hx hb dX4_entry_0 rfl (lv_at hl 1 rfl) ?_
  refine lv_if_ge (tgt := 11) hx hb dX4_entry_1 (by decide) (fun c_1 => ?_) (fun c_1 => ?_)
  · skip
    refine lv_iload_n hx hb dX4_entry_11 rfl (lv_at hl 1 rfl) ?_
    refine lv_aload_n hx hb dX4_entry_12 rfl (lv_at hl 0 rfl) ?_
    refine k_get (v := .ref nw) S G 0 rfl rfl hiX4 0 (by decide) hf7 rfl dX4_entry_13 ?_
    refine lv_bipush (v := 14) hx hb dX4_entry_16 (by decide) ?_
    refine k_iald (x := (f 14)) S G 1 0 rfl rfl (by unfold vp_in; decide) rfl dX4_entry_18 ?_
    refine lv_icmp_ge (tgt := 38) hx hb dX4_entry_19 (by decide) (fun c_2 => ?_) (fun c_2 => ?_)
    · skip
      refine lv_iload_n hx hb dX4_entry_38 rfl (lv_at hl 3 rfl) ?_
      have es : (s_X4_entry_0 f z q) = ((-1), z) := by rw [s_X4_entry_0, if_pos c_1, if_pos c_2]
      exact k_iret S G hr hlk dX4_entry_39 (by first | (rw [es]; done) | (rw [es]; rfl) | (simp only [es]; done) | (simp only [es]; rfl)) (by first | (rw [es]; done) | (rw [es]; rfl) | (simp only [es]; done) | (simp only [es]; rfl))
    · skip
      refine lv_aload_n hx hb dX4_entry_22 rfl (lv_at hl 0 rfl) ?_
      refine k_get (v := .ref nw) S G 0 rfl rfl hiX4 0 (by decide) hf7 rfl dX4_entry_23 ?_
      refine lv_bipush (v := 15) hx hb dX4_entry_26 (by decide) ?_
      refine lv_iconst (v := 4) hx hb dX4_entry_28 (by decide) ?_
      refine lv_iload_n hx hb dX4_entry_29 rfl (lv_at hl 1 rfl) ?_
      refine lv_imul hx hb dX4_entry_30 ?_
      refine lv_iadd hx hb dX4_entry_31 ?_
      refine lv_iload_n hx hb dX4_entry_32 rfl (lv_at hl 2 rfl) ?_
      refine lv_iadd hx hb dX4_entry_33 ?_
      refine k_iald (x := (f (((15 + (4 * q)) + 0).toNatClampNeg))) S G 1 0 rfl rfl (in_ent 0 (by decide) c_1 c_2 hcn) rfl dX4_entry_34 ?_
      refine lv_goto (tgt := 39) hx hb dX4_entry_35 (by decide) ?_
      have es : (s_X4_entry_0 f z q) = ((f (((15 + (4 * q)) + 0).toNatClampNeg)), z) := by rw [s_X4_entry_0, if_pos c_1, if_neg c_2]
      exact k_iret S G hr hlk dX4_entry_39 (by first | (rw [es]; done) | (rw [es]; rfl) | (simp only [es]; done) | (simp only [es]; rfl)) (by first | (rw [es]; done) | (rw [es]; rfl) | (simp only [es]; done) | (simp only [es]; rfl))
  · skip
    refine lv_aload_n hx hb dX4_entry_4 rfl (lv_at hl 0 rfl) ?_
    refine lv_bipush (v := (-2)) hx hb dX4_entry_5 (by decide) ?_
    refine k_callV (n := 1) (As := [.int (-2)]) (rest := []) (st1 := [.int (-2)]) (ws1 := [(y, .inr (4, [.ref nw, .ref ad, .ref pa, .int sn, .ref eA, .long hs])), (nw, .inl (cI, 39, .inl f)), (ad, .inl (cI, 39, .inl g)), (pa, .inl (cI, 195, .inl pf)), (eA, .inl (cI, 3, .inl (upd z 0 ((z 0) + 1))))]) S G (c_X4_error_2 l D cI cS y nw ad pa eA sn hs f g pf z) gX4_entry_X4_error rfl (by decide +kernel) ⟨⟨rfl, rfl⟩, Nat.le_of_ble_eq_true rfl, Nat.le_of_ble_eq_true rfl⟩ [0, 1, 2, 3, 4] (by decide) rfl [y, nw, ad, pa, eA] rfl rfl 0 rfl rfl rfl hl.1 rfl (Nat.le_of_ble_eq_true rfl) ⟨Nat.zero_le _, Nat.zero_le _⟩ dX4_entry_7 rfl rfl (fun H locs G => ?_)
    have es : (s_X4_entry_0 f z q) = ((-2), (upd z 0 ((z 0) + 1))) := by rw [s_X4_entry_0, if_neg c_1]
    exact k_iret S G hr hlk dX4_entry_10 (by first | (rw [es]; done) | (rw [es]; rfl) | (simp only [es]; done) | (simp only [es]; rfl)) (by first | (rw [es]; done) | (rw [es]; rfl) | (simp only [es]; done) | (simp only [es]; rfl))
def s_X4_strikeMinute (f : Nat → Int32) (z : Nat → Int32) (q : Int32) : Int32 × (Nat → Int32) := ((s_X4_entry_0 f z q).1, (s_X4_entry_0 f z q).2)
set_option maxHeartbeats 4000000 in
set_option maxRecDepth 100000 in
theorem c_X4_strikeMinute (l : Launch) (D : va_G) (cI cS : ClassId) (y : Nat) (nw : Nat) (ad : Nat) (pa : Nat) (eA : Nat) (sn : Int32) (hs : Int64) (f : Nat → Int32) (g : Nat → Int32) (pf : Nat → Int32) (z : Nat → Int32) (q : Int32) (hcn : cnOk (f 14)) : Ct l yX4_strikeMinute wsX4_strikeMinute ({ frames := 2, cells := 0, slots := 0, locals := 44 }) D (tyL cI cS) [.ref y, .int q] [(y, .inr (4, [.ref nw, .ref ad, .ref pa, .int sn, .ref eA, .long hs])), (nw, .inl (cI, 39, .inl f)), (ad, .inl (cI, 39, .inl g)), (pa, .inl (cI, 195, .inl pf)), (eA, .inl (cI, 3, .inl z))] (some (.int ((s_X4_strikeMinute f z q).1))) [(y, .inr (4, [.ref nw, .ref ad, .ref pa, .int sn, .ref eA, .long hs])), (nw, .inl (cI, 39, .inl f)), (ad, .inl (cI, 39, .inl g)), (pa, .inl (cI, 195, .inl pf)), (eA, .inl (cI, 3, .inl ((s_X4_strikeMinute f z q).2)))] := by
  refine Ct.of (cc := cX4_strikeMinute) (maxL := 2) (ret := (some .int)) (by decide) rfl (Nat.le_of_ble_eq_true rfl) ?_
  intro p ev s m args below meth c A ls S hr hlk G hl
  have hx := S.1
  have hb := S.2.1
  have hown : s.vm.findClass RX4 = some m.cls := S.2.2.2.1
  have hts := S.2.2.2.2
  have hl : lv_has ls 2 [(0, .ref y), (1, .int q)] := hl
  refine lv_aload_n hx hb dX4_strikeMinute_0 rfl (lv_at hl 0 rfl) ?_
  refine lv_iload_n hx hb dX4_strikeMinute_1 rfl (lv_at hl 1 rfl) ?_
  refine lv_iconst (v := 0) hx hb dX4_strikeMinute_2 (by decide) ?_
  refine lv_iconst (v := (-1)) hx hb dX4_strikeMinute_3 (by decide) ?_
  refine k_callV (n := 3) (As := [.int q, .int 0, .int (-1)]) (rest := []) (st1 := [.int ((s_X4_entry_0 f z q).1)]) (ws1 := [(y, .inr (4, [.ref nw, .ref ad, .ref pa, .int sn, .ref eA, .long hs])), (nw, .inl (cI, 39, .inl f)), (ad, .inl (cI, 39, .inl g)), (pa, .inl (cI, 195, .inl pf)), (eA, .inl (cI, 3, .inl ((s_X4_entry_0 f z q).2)))]) S G (c_X4_entry_0 l D cI cS y nw ad pa eA sn hs f g pf z q hcn) gX4_strikeMinute_X4_entry rfl (by decide +kernel) ⟨⟨rfl, rfl⟩, Nat.le_of_ble_eq_true rfl, Nat.le_of_ble_eq_true rfl⟩ [0, 1, 2, 3, 4] (by decide) rfl [y, nw, ad, pa, eA] rfl rfl 0 rfl rfl rfl hl.1 rfl (Nat.le_of_ble_eq_true rfl) ⟨Nat.zero_le _, Nat.zero_le _⟩ dX4_strikeMinute_4 rfl rfl (fun H locs G => ?_)
  generalize hu1 : (s_X4_entry_0 f z q) = u1 at G ⊢
  have es : (s_X4_strikeMinute f z q) = (u1.1, u1.2) := by rw [s_X4_strikeMinute, hu1]
  exact k_iret S G hr hlk dX4_strikeMinute_7 (by first | (rw [es]; done) | (rw [es]; rfl) | (simp only [es]; done) | (simp only [es]; rfl)) (by first | (rw [es]; done) | (rw [es]; rfl) | (simp only [es]; done) | (simp only [es]; rfl))
def s_X4_entry_1 (f : Nat → Int32) (z : Nat → Int32) (q : Int32) : Int32 × (Nat → Int32) := (if 0 ≤ q then (if (f 14) ≤ q then ((-1), z) else ((f (((15 + (4 * q)) + 1).toNatClampNeg)), z)) else ((-2), (upd z 0 ((z 0) + 1))))
set_option maxHeartbeats 4000000 in
set_option maxRecDepth 100000 in
theorem c_X4_entry_1 (l : Launch) (D : va_G) (cI cS : ClassId) (y : Nat) (nw : Nat) (ad : Nat) (pa : Nat) (eA : Nat) (sn : Int32) (hs : Int64) (f : Nat → Int32) (g : Nat → Int32) (pf : Nat → Int32) (z : Nat → Int32) (q : Int32) (hcn : cnOk (f 14)) : Ct l yX4_entry wsX4_entry ({ frames := 1, cells := 0, slots := 0, locals := 21 }) D (tyL cI cS) [.ref y, .int q, .int 1, .int (-1)] [(y, .inr (4, [.ref nw, .ref ad, .ref pa, .int sn, .ref eA, .long hs])), (nw, .inl (cI, 39, .inl f)), (ad, .inl (cI, 39, .inl g)), (pa, .inl (cI, 195, .inl pf)), (eA, .inl (cI, 3, .inl z))] (some (.int ((s_X4_entry_1 f z q).1))) [(y, .inr (4, [.ref nw, .ref ad, .ref pa, .int sn, .ref eA, .long hs])), (nw, .inl (cI, 39, .inl f)), (ad, .inl (cI, 39, .inl g)), (pa, .inl (cI, 195, .inl pf)), (eA, .inl (cI, 3, .inl ((s_X4_entry_1 f z q).2)))] := by
  refine Ct.of (cc := cX4_entry) (maxL := 4) (ret := (some .int)) (by decide) rfl (Nat.le_of_ble_eq_true rfl) ?_
  intro p ev s m args below meth c A ls S hr hlk G hl
  have hx := S.1
  have hb := S.2.1
  have hown : s.vm.findClass RX4 = some m.cls := S.2.2.2.1
  have hts := S.2.2.2.2
  have hl : lv_has ls 4 [(0, .ref y), (1, .int q), (2, .int 1), (3, .int (-1))] := hl
  have hiX4 : ∀ w ∈ wsX40, w ∈ wsX4_entry := by decide +kernel
  have hf7 := hts (.fieldLink RX4 7 "StrikingWorkModel" "now" "[I") (by decide +kernel)
  refine lv_iload_n hx hb dX4_entry_0 rfl (lv_at hl 1 rfl) ?_
  refine lv_if_ge (tgt := 11) hx hb dX4_entry_1 (by decide) (fun c_1 => ?_) (fun c_1 => ?_)
  · skip
    refine lv_iload_n hx hb dX4_entry_11 rfl (lv_at hl 1 rfl) ?_
    refine lv_aload_n hx hb dX4_entry_12 rfl (lv_at hl 0 rfl) ?_
    refine k_get (v := .ref nw) S G 0 rfl rfl hiX4 0 (by decide) hf7 rfl dX4_entry_13 ?_
    refine lv_bipush (v := 14) hx hb dX4_entry_16 (by decide) ?_
    refine k_iald (x := (f 14)) S G 1 0 rfl rfl (by unfold vp_in; decide) rfl dX4_entry_18 ?_
    refine lv_icmp_ge (tgt := 38) hx hb dX4_entry_19 (by decide) (fun c_2 => ?_) (fun c_2 => ?_)
    · skip
      refine lv_iload_n hx hb dX4_entry_38 rfl (lv_at hl 3 rfl) ?_
      have es : (s_X4_entry_1 f z q) = ((-1), z) := by rw [s_X4_entry_1, if_pos c_1, if_pos c_2]
      exact k_iret S G hr hlk dX4_entry_39 (by first | (rw [es]; done) | (rw [es]; rfl) | (simp only [es]; done) | (simp only [es]; rfl)) (by first | (rw [es]; done) | (rw [es]; rfl) | (simp only [es]; done) | (simp only [es]; rfl))
    · skip
      refine lv_aload_n hx hb dX4_entry_22 rfl (lv_at hl 0 rfl) ?_
      refine k_get (v := .ref nw) S G 0 rfl rfl hiX4 0 (by decide) hf7 rfl dX4_entry_23 ?_
      refine lv_bipush (v := 15) hx hb dX4_entry_26 (by decide) ?_
      refine lv_iconst (v := 4) hx hb dX4_entry_28 (by decide) ?_
      refine lv_iload_n hx hb dX4_entry_29 rfl (lv_at hl 1 rfl) ?_
      refine lv_imul hx hb dX4_entry_30 ?_
      refine lv_iadd hx hb dX4_entry_31 ?_
      refine lv_iload_n hx hb dX4_entry_32 rfl (lv_at hl 2 rfl) ?_
      refine lv_iadd hx hb dX4_entry_33 ?_
      refine k_iald (x := (f (((15 + (4 * q)) + 1).toNatClampNeg))) S G 1 0 rfl rfl (in_ent 1 (by decide) c_1 c_2 hcn) rfl dX4_entry_34 ?_
      refine lv_goto (tgt := 39) hx hb dX4_entry_35 (by decide) ?_
      have es : (s_X4_entry_1 f z q) = ((f (((15 + (4 * q)) + 1).toNatClampNeg)), z) := by rw [s_X4_entry_1, if_pos c_1, if_neg c_2]
      exact k_iret S G hr hlk dX4_entry_39 (by first | (rw [es]; done) | (rw [es]; rfl) | (simp only [es]; done) | (simp only [es]; rfl)) (by first | (rw [es]; done) | (rw [es]; rfl) | (simp only [es]; done) | (simp only [es]; rfl))
  · skip
    refine lv_aload_n hx hb dX4_entry_4 rfl (lv_at hl 0 rfl) ?_
    refine lv_bipush (v := (-2)) hx hb dX4_entry_5 (by decide) ?_
    refine k_callV (n := 1) (As := [.int (-2)]) (rest := []) (st1 := [.int (-2)]) (ws1 := [(y, .inr (4, [.ref nw, .ref ad, .ref pa, .int sn, .ref eA, .long hs])), (nw, .inl (cI, 39, .inl f)), (ad, .inl (cI, 39, .inl g)), (pa, .inl (cI, 195, .inl pf)), (eA, .inl (cI, 3, .inl (upd z 0 ((z 0) + 1))))]) S G (c_X4_error_2 l D cI cS y nw ad pa eA sn hs f g pf z) gX4_entry_X4_error rfl (by decide +kernel) ⟨⟨rfl, rfl⟩, Nat.le_of_ble_eq_true rfl, Nat.le_of_ble_eq_true rfl⟩ [0, 1, 2, 3, 4] (by decide) rfl [y, nw, ad, pa, eA] rfl rfl 0 rfl rfl rfl hl.1 rfl (Nat.le_of_ble_eq_true rfl) ⟨Nat.zero_le _, Nat.zero_le _⟩ dX4_entry_7 rfl rfl (fun H locs G => ?_)
    have es : (s_X4_entry_1 f z q) = ((-2), (upd z 0 ((z 0) + 1))) := by rw [s_X4_entry_1, if_neg c_1]
    exact k_iret S G hr hlk dX4_entry_10 (by first | (rw [es]; done) | (rw [es]; rfl) | (simp only [es]; done) | (simp only [es]; rfl)) (by first | (rw [es]; done) | (rw [es]; rfl) | (simp only [es]; done) | (simp only [es]; rfl))
def s_X4_strikeTrain (f : Nat → Int32) (z : Nat → Int32) (q : Int32) : Int32 × (Nat → Int32) := ((s_X4_entry_1 f z q).1, (s_X4_entry_1 f z q).2)
set_option maxHeartbeats 4000000 in
set_option maxRecDepth 100000 in
theorem c_X4_strikeTrain (l : Launch) (D : va_G) (cI cS : ClassId) (y : Nat) (nw : Nat) (ad : Nat) (pa : Nat) (eA : Nat) (sn : Int32) (hs : Int64) (f : Nat → Int32) (g : Nat → Int32) (pf : Nat → Int32) (z : Nat → Int32) (q : Int32) (hcn : cnOk (f 14)) : Ct l yX4_strikeTrain wsX4_strikeTrain ({ frames := 2, cells := 0, slots := 0, locals := 44 }) D (tyL cI cS) [.ref y, .int q] [(y, .inr (4, [.ref nw, .ref ad, .ref pa, .int sn, .ref eA, .long hs])), (nw, .inl (cI, 39, .inl f)), (ad, .inl (cI, 39, .inl g)), (pa, .inl (cI, 195, .inl pf)), (eA, .inl (cI, 3, .inl z))] (some (.int ((s_X4_strikeTrain f z q).1))) [(y, .inr (4, [.ref nw, .ref ad, .ref pa, .int sn, .ref eA, .long hs])), (nw, .inl (cI, 39, .inl f)), (ad, .inl (cI, 39, .inl g)), (pa, .inl (cI, 195, .inl pf)), (eA, .inl (cI, 3, .inl ((s_X4_strikeTrain f z q).2)))] := by
  refine Ct.of (cc := cX4_strikeTrain) (maxL := 2) (ret := (some .int)) (by decide) rfl (Nat.le_of_ble_eq_true rfl) ?_
  intro p ev s m args below meth c A ls S hr hlk G hl
  have hx := S.1
  have hb := S.2.1
  have hown : s.vm.findClass RX4 = some m.cls := S.2.2.2.1
  have hts := S.2.2.2.2
  have hl : lv_has ls 2 [(0, .ref y), (1, .int q)] := hl
  refine lv_aload_n hx hb dX4_strikeTrain_0 rfl (lv_at hl 0 rfl) ?_
  refine lv_iload_n hx hb dX4_strikeTrain_1 rfl (lv_at hl 1 rfl) ?_
  refine lv_iconst (v := 1) hx hb dX4_strikeTrain_2 (by decide) ?_
  refine lv_iconst (v := (-1)) hx hb dX4_strikeTrain_3 (by decide) ?_
  refine k_callV (n := 3) (As := [.int q, .int 1, .int (-1)]) (rest := []) (st1 := [.int ((s_X4_entry_1 f z q).1)]) (ws1 := [(y, .inr (4, [.ref nw, .ref ad, .ref pa, .int sn, .ref eA, .long hs])), (nw, .inl (cI, 39, .inl f)), (ad, .inl (cI, 39, .inl g)), (pa, .inl (cI, 195, .inl pf)), (eA, .inl (cI, 3, .inl ((s_X4_entry_1 f z q).2)))]) S G (c_X4_entry_1 l D cI cS y nw ad pa eA sn hs f g pf z q hcn) gX4_strikeTrain_X4_entry rfl (by decide +kernel) ⟨⟨rfl, rfl⟩, Nat.le_of_ble_eq_true rfl, Nat.le_of_ble_eq_true rfl⟩ [0, 1, 2, 3, 4] (by decide) rfl [y, nw, ad, pa, eA] rfl rfl 0 rfl rfl rfl hl.1 rfl (Nat.le_of_ble_eq_true rfl) ⟨Nat.zero_le _, Nat.zero_le _⟩ dX4_strikeTrain_4 rfl rfl (fun H locs G => ?_)
  generalize hu1 : (s_X4_entry_1 f z q) = u1 at G ⊢
  have es : (s_X4_strikeTrain f z q) = (u1.1, u1.2) := by rw [s_X4_strikeTrain, hu1]
  exact k_iret S G hr hlk dX4_strikeTrain_7 (by first | (rw [es]; done) | (rw [es]; rfl) | (simp only [es]; done) | (simp only [es]; rfl)) (by first | (rw [es]; done) | (rw [es]; rfl) | (simp only [es]; done) | (simp only [es]; rfl))
def s_X4_entry_2 (f : Nat → Int32) (z : Nat → Int32) (q : Int32) : Int32 × (Nat → Int32) := (if 0 ≤ q then (if (f 14) ≤ q then (0, z) else ((f (((15 + (4 * q)) + 2).toNatClampNeg)), z)) else ((-2), (upd z 0 ((z 0) + 1))))
set_option maxHeartbeats 4000000 in
set_option maxRecDepth 100000 in
theorem c_X4_entry_2 (l : Launch) (D : va_G) (cI cS : ClassId) (y : Nat) (nw : Nat) (ad : Nat) (pa : Nat) (eA : Nat) (sn : Int32) (hs : Int64) (f : Nat → Int32) (g : Nat → Int32) (pf : Nat → Int32) (z : Nat → Int32) (q : Int32) (hcn : cnOk (f 14)) : Ct l yX4_entry wsX4_entry ({ frames := 1, cells := 0, slots := 0, locals := 21 }) D (tyL cI cS) [.ref y, .int q, .int 2, .int 0] [(y, .inr (4, [.ref nw, .ref ad, .ref pa, .int sn, .ref eA, .long hs])), (nw, .inl (cI, 39, .inl f)), (ad, .inl (cI, 39, .inl g)), (pa, .inl (cI, 195, .inl pf)), (eA, .inl (cI, 3, .inl z))] (some (.int ((s_X4_entry_2 f z q).1))) [(y, .inr (4, [.ref nw, .ref ad, .ref pa, .int sn, .ref eA, .long hs])), (nw, .inl (cI, 39, .inl f)), (ad, .inl (cI, 39, .inl g)), (pa, .inl (cI, 195, .inl pf)), (eA, .inl (cI, 3, .inl ((s_X4_entry_2 f z q).2)))] := by
  refine Ct.of (cc := cX4_entry) (maxL := 4) (ret := (some .int)) (by decide) rfl (Nat.le_of_ble_eq_true rfl) ?_
  intro p ev s m args below meth c A ls S hr hlk G hl
  have hx := S.1
  have hb := S.2.1
  have hown : s.vm.findClass RX4 = some m.cls := S.2.2.2.1
  have hts := S.2.2.2.2
  have hl : lv_has ls 4 [(0, .ref y), (1, .int q), (2, .int 2), (3, .int 0)] := hl
  have hiX4 : ∀ w ∈ wsX40, w ∈ wsX4_entry := by decide +kernel
  have hf7 := hts (.fieldLink RX4 7 "StrikingWorkModel" "now" "[I") (by decide +kernel)
  refine lv_iload_n hx hb dX4_entry_0 rfl (lv_at hl 1 rfl) ?_
  refine lv_if_ge (tgt := 11) hx hb dX4_entry_1 (by decide) (fun c_1 => ?_) (fun c_1 => ?_)
  · skip
    refine lv_iload_n hx hb dX4_entry_11 rfl (lv_at hl 1 rfl) ?_
    refine lv_aload_n hx hb dX4_entry_12 rfl (lv_at hl 0 rfl) ?_
    refine k_get (v := .ref nw) S G 0 rfl rfl hiX4 0 (by decide) hf7 rfl dX4_entry_13 ?_
    refine lv_bipush (v := 14) hx hb dX4_entry_16 (by decide) ?_
    refine k_iald (x := (f 14)) S G 1 0 rfl rfl (by unfold vp_in; decide) rfl dX4_entry_18 ?_
    refine lv_icmp_ge (tgt := 38) hx hb dX4_entry_19 (by decide) (fun c_2 => ?_) (fun c_2 => ?_)
    · skip
      refine lv_iload_n hx hb dX4_entry_38 rfl (lv_at hl 3 rfl) ?_
      have es : (s_X4_entry_2 f z q) = (0, z) := by rw [s_X4_entry_2, if_pos c_1, if_pos c_2]
      exact k_iret S G hr hlk dX4_entry_39 (by first | (rw [es]; done) | (rw [es]; rfl) | (simp only [es]; done) | (simp only [es]; rfl)) (by first | (rw [es]; done) | (rw [es]; rfl) | (simp only [es]; done) | (simp only [es]; rfl))
    · skip
      refine lv_aload_n hx hb dX4_entry_22 rfl (lv_at hl 0 rfl) ?_
      refine k_get (v := .ref nw) S G 0 rfl rfl hiX4 0 (by decide) hf7 rfl dX4_entry_23 ?_
      refine lv_bipush (v := 15) hx hb dX4_entry_26 (by decide) ?_
      refine lv_iconst (v := 4) hx hb dX4_entry_28 (by decide) ?_
      refine lv_iload_n hx hb dX4_entry_29 rfl (lv_at hl 1 rfl) ?_
      refine lv_imul hx hb dX4_entry_30 ?_
      refine lv_iadd hx hb dX4_entry_31 ?_
      refine lv_iload_n hx hb dX4_entry_32 rfl (lv_at hl 2 rfl) ?_
      refine lv_iadd hx hb dX4_entry_33 ?_
      refine k_iald (x := (f (((15 + (4 * q)) + 2).toNatClampNeg))) S G 1 0 rfl rfl (in_ent 2 (by decide) c_1 c_2 hcn) rfl dX4_entry_34 ?_
      refine lv_goto (tgt := 39) hx hb dX4_entry_35 (by decide) ?_
      have es : (s_X4_entry_2 f z q) = ((f (((15 + (4 * q)) + 2).toNatClampNeg)), z) := by rw [s_X4_entry_2, if_pos c_1, if_neg c_2]
      exact k_iret S G hr hlk dX4_entry_39 (by first | (rw [es]; done) | (rw [es]; rfl) | (simp only [es]; done) | (simp only [es]; rfl)) (by first | (rw [es]; done) | (rw [es]; rfl) | (simp only [es]; done) | (simp only [es]; rfl))
  · skip
    refine lv_aload_n hx hb dX4_entry_4 rfl (lv_at hl 0 rfl) ?_
    refine lv_bipush (v := (-2)) hx hb dX4_entry_5 (by decide) ?_
    refine k_callV (n := 1) (As := [.int (-2)]) (rest := []) (st1 := [.int (-2)]) (ws1 := [(y, .inr (4, [.ref nw, .ref ad, .ref pa, .int sn, .ref eA, .long hs])), (nw, .inl (cI, 39, .inl f)), (ad, .inl (cI, 39, .inl g)), (pa, .inl (cI, 195, .inl pf)), (eA, .inl (cI, 3, .inl (upd z 0 ((z 0) + 1))))]) S G (c_X4_error_2 l D cI cS y nw ad pa eA sn hs f g pf z) gX4_entry_X4_error rfl (by decide +kernel) ⟨⟨rfl, rfl⟩, Nat.le_of_ble_eq_true rfl, Nat.le_of_ble_eq_true rfl⟩ [0, 1, 2, 3, 4] (by decide) rfl [y, nw, ad, pa, eA] rfl rfl 0 rfl rfl rfl hl.1 rfl (Nat.le_of_ble_eq_true rfl) ⟨Nat.zero_le _, Nat.zero_le _⟩ dX4_entry_7 rfl rfl (fun H locs G => ?_)
    have es : (s_X4_entry_2 f z q) = ((-2), (upd z 0 ((z 0) + 1))) := by rw [s_X4_entry_2, if_neg c_1]
    exact k_iret S G hr hlk dX4_entry_10 (by first | (rw [es]; done) | (rw [es]; rfl) | (simp only [es]; done) | (simp only [es]; rfl)) (by first | (rw [es]; done) | (rw [es]; rfl) | (simp only [es]; done) | (simp only [es]; rfl))
def s_X4_strikeBlows (f : Nat → Int32) (z : Nat → Int32) (q : Int32) : Int32 × (Nat → Int32) := ((s_X4_entry_2 f z q).1, (s_X4_entry_2 f z q).2)
set_option maxHeartbeats 4000000 in
set_option maxRecDepth 100000 in
theorem c_X4_strikeBlows (l : Launch) (D : va_G) (cI cS : ClassId) (y : Nat) (nw : Nat) (ad : Nat) (pa : Nat) (eA : Nat) (sn : Int32) (hs : Int64) (f : Nat → Int32) (g : Nat → Int32) (pf : Nat → Int32) (z : Nat → Int32) (q : Int32) (hcn : cnOk (f 14)) : Ct l yX4_strikeBlows wsX4_strikeBlows ({ frames := 2, cells := 0, slots := 0, locals := 44 }) D (tyL cI cS) [.ref y, .int q] [(y, .inr (4, [.ref nw, .ref ad, .ref pa, .int sn, .ref eA, .long hs])), (nw, .inl (cI, 39, .inl f)), (ad, .inl (cI, 39, .inl g)), (pa, .inl (cI, 195, .inl pf)), (eA, .inl (cI, 3, .inl z))] (some (.int ((s_X4_strikeBlows f z q).1))) [(y, .inr (4, [.ref nw, .ref ad, .ref pa, .int sn, .ref eA, .long hs])), (nw, .inl (cI, 39, .inl f)), (ad, .inl (cI, 39, .inl g)), (pa, .inl (cI, 195, .inl pf)), (eA, .inl (cI, 3, .inl ((s_X4_strikeBlows f z q).2)))] := by
  refine Ct.of (cc := cX4_strikeBlows) (maxL := 2) (ret := (some .int)) (by decide) rfl (Nat.le_of_ble_eq_true rfl) ?_
  intro p ev s m args below meth c A ls S hr hlk G hl
  have hx := S.1
  have hb := S.2.1
  have hown : s.vm.findClass RX4 = some m.cls := S.2.2.2.1
  have hts := S.2.2.2.2
  have hl : lv_has ls 2 [(0, .ref y), (1, .int q)] := hl
  refine lv_aload_n hx hb dX4_strikeBlows_0 rfl (lv_at hl 0 rfl) ?_
  refine lv_iload_n hx hb dX4_strikeBlows_1 rfl (lv_at hl 1 rfl) ?_
  refine lv_iconst (v := 2) hx hb dX4_strikeBlows_2 (by decide) ?_
  refine lv_iconst (v := 0) hx hb dX4_strikeBlows_3 (by decide) ?_
  refine k_callV (n := 3) (As := [.int q, .int 2, .int 0]) (rest := []) (st1 := [.int ((s_X4_entry_2 f z q).1)]) (ws1 := [(y, .inr (4, [.ref nw, .ref ad, .ref pa, .int sn, .ref eA, .long hs])), (nw, .inl (cI, 39, .inl f)), (ad, .inl (cI, 39, .inl g)), (pa, .inl (cI, 195, .inl pf)), (eA, .inl (cI, 3, .inl ((s_X4_entry_2 f z q).2)))]) S G (c_X4_entry_2 l D cI cS y nw ad pa eA sn hs f g pf z q hcn) gX4_strikeBlows_X4_entry rfl (by decide +kernel) ⟨⟨rfl, rfl⟩, Nat.le_of_ble_eq_true rfl, Nat.le_of_ble_eq_true rfl⟩ [0, 1, 2, 3, 4] (by decide) rfl [y, nw, ad, pa, eA] rfl rfl 0 rfl rfl rfl hl.1 rfl (Nat.le_of_ble_eq_true rfl) ⟨Nat.zero_le _, Nat.zero_le _⟩ dX4_strikeBlows_4 rfl rfl (fun H locs G => ?_)
  generalize hu1 : (s_X4_entry_2 f z q) = u1 at G ⊢
  have es : (s_X4_strikeBlows f z q) = (u1.1, u1.2) := by rw [s_X4_strikeBlows, hu1]
  exact k_iret S G hr hlk dX4_strikeBlows_7 (by first | (rw [es]; done) | (rw [es]; rfl) | (simp only [es]; done) | (simp only [es]; rfl)) (by first | (rw [es]; done) | (rw [es]; rfl) | (simp only [es]; done) | (simp only [es]; rfl))
theorem in_err4 {q : Int32} (h1 : ¬ (s_X4_in q (-4) (-2)) = 0) : vp_in ((-2) - q) 3 := by
  unfold s_X4_in at h1
  by_cases a : q < (-4)
  · rw [if_pos a] at h1; exact absurd rfl h1
  · rw [if_neg a] at h1
    by_cases b : (-2) < q
    · rw [if_pos b] at h1; exact absurd rfl h1
    · exact in_err a (Int32.not_lt.mp b)
def s_X4_errorCount (z : Nat → Int32) (q : Int32) : Int32 × (Nat → Int32) := (if (s_X4_in q (-4) (-2)) = 0 then ((-2), (upd z 0 ((z 0) + 1))) else ((z (((-2) - q).toNatClampNeg)), z))
set_option maxHeartbeats 4000000 in
set_option maxRecDepth 100000 in
theorem c_X4_errorCount (l : Launch) (D : va_G) (cI cS : ClassId) (y : Nat) (nw : Nat) (ad : Nat) (pa : Nat) (eA : Nat) (sn : Int32) (hs : Int64) (f : Nat → Int32) (g : Nat → Int32) (pf : Nat → Int32) (z : Nat → Int32) (q : Int32) : Ct l yX4_errorCount wsX4_errorCount ({ frames := 1, cells := 0, slots := 0, locals := 22 }) D (tyL cI cS) [.ref y, .int q] [(y, .inr (4, [.ref nw, .ref ad, .ref pa, .int sn, .ref eA, .long hs])), (nw, .inl (cI, 39, .inl f)), (ad, .inl (cI, 39, .inl g)), (pa, .inl (cI, 195, .inl pf)), (eA, .inl (cI, 3, .inl z))] (some (.int ((s_X4_errorCount z q).1))) [(y, .inr (4, [.ref nw, .ref ad, .ref pa, .int sn, .ref eA, .long hs])), (nw, .inl (cI, 39, .inl f)), (ad, .inl (cI, 39, .inl g)), (pa, .inl (cI, 195, .inl pf)), (eA, .inl (cI, 3, .inl ((s_X4_errorCount z q).2)))] := by
  refine Ct.of (cc := cX4_errorCount) (maxL := 2) (ret := (some .int)) (by decide) rfl (Nat.le_of_ble_eq_true rfl) ?_
  intro p ev s m args below meth c A ls S hr hlk G hl
  have hx := S.1
  have hb := S.2.1
  have hown : s.vm.findClass RX4 = some m.cls := S.2.2.2.1
  have hts := S.2.2.2.2
  have hl : lv_has ls 2 [(0, .ref y), (1, .int q)] := hl
  have hiX4 : ∀ w ∈ wsX40, w ∈ wsX4_errorCount := by decide +kernel
  have hf19 := hts (.fieldLink RX4 19 "StrikingWorkModel" "errors" "[I") (by decide +kernel)
  refine lv_iload_n hx hb dX4_errorCount_0 rfl (lv_at hl 1 rfl) ?_
  refine lv_bipush (v := (-4)) hx hb dX4_errorCount_1 (by decide) ?_
  refine lv_bipush (v := (-2)) hx hb dX4_errorCount_3 (by decide) ?_
  refine k_callS (n := 3) (As := [.int q, .int (-4), .int (-2)]) (rest := []) (st1 := [.int (s_X4_in q (-4) (-2))]) (ws1 := [(y, .inr (4, [.ref nw, .ref ad, .ref pa, .int sn, .ref eA, .long hs])), (nw, .inl (cI, 39, .inl f)), (ad, .inl (cI, 39, .inl g)), (pa, .inl (cI, 195, .inl pf)), (eA, .inl (cI, 3, .inl z))]) S G (c_X4_in l D cI cS q (-4) (-2)) gX4_errorCount_X4_in rfl (by decide +kernel) ⟨⟨rfl, rfl⟩, Nat.le_of_ble_eq_true rfl, Nat.le_of_ble_eq_true rfl⟩ [] (by decide) rfl [] rfl rfl rfl hl.1 rfl (Nat.le_of_ble_eq_true rfl) ⟨Nat.zero_le _, Nat.zero_le _⟩ dX4_errorCount_5 rfl rfl (fun H locs G => ?_)
  refine lv_if_eq (tgt := 23) hx hb dX4_errorCount_8 (by decide) (fun c_1 => ?_) (fun c_1 => ?_)
  · skip
    refine lv_aload_n hx hb dX4_errorCount_23 rfl (lv_at hl 0 rfl) ?_
    refine lv_bipush (v := (-2)) hx hb dX4_errorCount_24 (by decide) ?_
    refine k_callV (n := 1) (As := [.int (-2)]) (rest := []) (st1 := [.int (-2)]) (ws1 := [(y, .inr (4, [.ref nw, .ref ad, .ref pa, .int sn, .ref eA, .long hs])), (nw, .inl (cI, 39, .inl f)), (ad, .inl (cI, 39, .inl g)), (pa, .inl (cI, 195, .inl pf)), (eA, .inl (cI, 3, .inl (upd z 0 ((z 0) + 1))))]) S G (c_X4_error_2 l D cI cS y nw ad pa eA sn hs f g pf z) gX4_errorCount_X4_error rfl (by decide +kernel) ⟨⟨rfl, rfl⟩, Nat.le_of_ble_eq_true rfl, Nat.le_of_ble_eq_true rfl⟩ [0, 1, 2, 3, 4] (by decide) rfl [y, nw, ad, pa, eA] rfl rfl 0 rfl rfl rfl hl.1 rfl (Nat.le_of_ble_eq_true rfl) ⟨Nat.zero_le _, Nat.zero_le _⟩ dX4_errorCount_26 rfl rfl (fun H locs G => ?_)
    have es : (s_X4_errorCount z q) = ((-2), (upd z 0 ((z 0) + 1))) := by rw [s_X4_errorCount, if_pos c_1]
    exact k_iret S G hr hlk dX4_errorCount_29 (by first | (rw [es]; done) | (rw [es]; rfl) | (simp only [es]; done) | (simp only [es]; rfl)) (by first | (rw [es]; done) | (rw [es]; rfl) | (simp only [es]; done) | (simp only [es]; rfl))
  · skip
    refine lv_aload_n hx hb dX4_errorCount_11 rfl (lv_at hl 0 rfl) ?_
    refine k_get (v := .ref eA) S G 0 rfl rfl hiX4 4 (by decide) hf19 rfl dX4_errorCount_12 ?_
    refine lv_bipush (v := (-2)) hx hb dX4_errorCount_15 (by decide) ?_
    refine lv_iload_n hx hb dX4_errorCount_17 rfl (lv_at hl 1 rfl) ?_
    refine lv_isub hx hb dX4_errorCount_18 ?_
    refine k_iald (x := (z (((-2) - q).toNatClampNeg))) S G 4 0 rfl rfl (in_err4 c_1) rfl dX4_errorCount_19 ?_
    refine lv_goto (tgt := 29) hx hb dX4_errorCount_20 (by decide) ?_
    have es : (s_X4_errorCount z q) = ((z (((-2) - q).toNatClampNeg)), z) := by rw [s_X4_errorCount, if_neg c_1]
    exact k_iret S G hr hlk dX4_errorCount_29 (by first | (rw [es]; done) | (rw [es]; rfl) | (simp only [es]; done) | (simp only [es]; rfl)) (by first | (rw [es]; done) | (rw [es]; rfl) | (simp only [es]; done) | (simp only [es]; rfl))
set_option maxHeartbeats 4000000 in
set_option maxRecDepth 100000 in
theorem c_X4_undo_0 (l : Launch) (D : va_G) (cI cS : ClassId) (y : Nat) (nw : Nat) (ad : Nat) (pa : Nat) (eA : Nat) (hs : Int64) (f : Nat → Int32) (g : Nat → Int32) (pf : Nat → Int32) (z : Nat → Int32) : Ct l yX4_undo wsX4_undo ({ frames := 1, cells := 0, slots := 0, locals := 24 }) D (tyL cI cS) [.ref y] [(y, .inr (4, [.ref nw, .ref ad, .ref pa, .int 0, .ref eA, .long hs])), (nw, .inl (cI, 39, .inl f)), (ad, .inl (cI, 39, .inl g)), (pa, .inl (cI, 195, .inl pf)), (eA, .inl (cI, 3, .inl z))] (some (.int (-4))) [(y, .inr (4, [.ref nw, .ref ad, .ref pa, .int 0, .ref eA, .long hs])), (nw, .inl (cI, 39, .inl f)), (ad, .inl (cI, 39, .inl g)), (pa, .inl (cI, 195, .inl pf)), (eA, .inl (cI, 3, .inl (upd z 2 ((z 2) + 1))))] := by
  refine Ct.of (cc := cX4_undo) (maxL := 1) (ret := (some .int)) (by decide) rfl (Nat.le_of_ble_eq_true rfl) ?_
  intro p ev s m args below meth c A ls S hr hlk G hl
  have hx := S.1
  have hb := S.2.1
  have hown : s.vm.findClass RX4 = some m.cls := S.2.2.2.1
  have hts := S.2.2.2.2
  have hl : lv_has ls 1 [(0, .ref y)] := hl
  have hiX4 : ∀ w ∈ wsX40, w ∈ wsX4_undo := by decide +kernel
  have hf26 := hts (.fieldLink RX4 26 "StrikingWorkModel" "states" "I") (by decide +kernel)
  refine lv_aload_n hx hb dX4_undo_0 rfl (lv_at hl 0 rfl) ?_
  refine k_get (v := .int 0) S G 0 rfl rfl hiX4 3 (by decide) hf26 rfl dX4_undo_1 ?_
  refine lv_if_ne (tgt := 14) hx hb dX4_undo_4 (by decide) (fun c_1 => absurd c_1 (by decide)) (fun c_1 => ?_)
  refine lv_aload_n hx hb dX4_undo_7 rfl (lv_at hl 0 rfl) ?_
  refine lv_bipush (v := (-4)) hx hb dX4_undo_8 (by decide) ?_
  refine k_callV (n := 1) (As := [.int (-4)]) (rest := []) (st1 := [.int (-4)]) (ws1 := [(y, .inr (4, [.ref nw, .ref ad, .ref pa, .int 0, .ref eA, .long hs])), (nw, .inl (cI, 39, .inl f)), (ad, .inl (cI, 39, .inl g)), (pa, .inl (cI, 195, .inl pf)), (eA, .inl (cI, 3, .inl (upd z 2 ((z 2) + 1))))]) S G (c_X4_error_4 l D cI cS y nw ad pa eA 0 hs f g pf z) gX4_undo_X4_error rfl (by decide +kernel) ⟨⟨rfl, rfl⟩, Nat.le_of_ble_eq_true rfl, Nat.le_of_ble_eq_true rfl⟩ [0, 1, 2, 3, 4] (by decide) rfl [y, nw, ad, pa, eA] rfl rfl 0 rfl rfl rfl hl.1 rfl (Nat.le_of_ble_eq_true rfl) ⟨Nat.zero_le _, Nat.zero_le _⟩ dX4_undo_10 rfl rfl (fun H locs G => ?_)
  exact k_iret S G hr hlk dX4_undo_13 rfl rfl
set_option maxHeartbeats 4000000 in
set_option maxRecDepth 100000 in
theorem c_X4_undo_1 (l : Launch) (D : va_G) (cI cS : ClassId) (y : Nat) (nw : Nat) (ad : Nat) (pa : Nat) (eA : Nat) (hs : Int64) (f : Nat → Int32) (g : Nat → Int32) (pf : Nat → Int32) (z : Nat → Int32) : Ct l yX4_undo wsX4_undo ({ frames := 1, cells := 0, slots := 0, locals := 24 }) D (tyL cI cS) [.ref y] [(y, .inr (4, [.ref nw, .ref ad, .ref pa, .int 1, .ref eA, .long hs])), (nw, .inl (cI, 39, .inl f)), (ad, .inl (cI, 39, .inl g)), (pa, .inl (cI, 195, .inl pf)), (eA, .inl (cI, 3, .inl z))] (some (.int 0)) [(y, .inr (4, [.ref nw, .ref ad, .ref pa, .int 0, .ref eA, .long hs])), (nw, .inl (cI, 39, .inl (va_cpy pf f 0 0 39))), (ad, .inl (cI, 39, .inl g)), (pa, .inl (cI, 195, .inl pf)), (eA, .inl (cI, 3, .inl z))] := by
  refine Ct.of (cc := cX4_undo) (maxL := 1) (ret := (some .int)) (by decide) rfl (Nat.le_of_ble_eq_true rfl) ?_
  intro p ev s m args below meth c A ls S hr hlk G hl
  have hx := S.1
  have hb := S.2.1
  have hown : s.vm.findClass RX4 = some m.cls := S.2.2.2.1
  have hts := S.2.2.2.2
  have hl : lv_has ls 1 [(0, .ref y)] := hl
  have hiX4 : ∀ w ∈ wsX40, w ∈ wsX4_undo := by decide +kernel
  have hf7 := hts (.fieldLink RX4 7 "StrikingWorkModel" "now" "[I") (by decide +kernel)
  have hf16 := hts (.fieldLink RX4 16 "StrikingWorkModel" "past" "[I") (by decide +kernel)
  have hf26 := hts (.fieldLink RX4 26 "StrikingWorkModel" "states" "I") (by decide +kernel)
  refine lv_aload_n hx hb dX4_undo_0 rfl (lv_at hl 0 rfl) ?_
  refine k_get (v := .int 1) S G 0 rfl rfl hiX4 3 (by decide) hf26 rfl dX4_undo_1 ?_
  refine lv_if_ne (tgt := 14) hx hb dX4_undo_4 (by decide) (fun c_1 => ?_) (fun c_1 => absurd c_1 (by decide))
  refine lv_aload_n hx hb dX4_undo_14 rfl (lv_at hl 0 rfl) ?_
  refine lv_dup hx hb dX4_undo_15 rfl ?_
  refine k_get (v := .int 1) S G 0 rfl rfl hiX4 3 (by decide) hf26 rfl dX4_undo_16 ?_
  refine lv_iconst (v := 1) hx hb dX4_undo_19 (by decide) ?_
  refine lv_isub hx hb dX4_undo_20 ?_
  refine lv_lit (v := 0) (by decide) ?_
  refine k_put (ws1 := [(y, .inr (4, [.ref nw, .ref ad, .ref pa, .int 0, .ref eA, .long hs])), (nw, .inl (cI, 39, .inl f)), (ad, .inl (cI, 39, .inl g)), (pa, .inl (cI, 195, .inl pf)), (eA, .inl (cI, 3, .inl z))]) S G 0 rfl rfl hiX4 tyX4 tyX4_ok nmX4 3 (by decide) hf26 rfl rfl rfl (Nat.le_of_ble_eq_true rfl) dX4_undo_21 rfl (fun H locs G => ?_)
  refine lv_aload_n hx hb dX4_undo_24 rfl (lv_at hl 0 rfl) ?_
  refine k_get (v := .ref pa) S G 0 rfl rfl hiX4 2 (by decide) hf16 rfl dX4_undo_25 ?_
  refine lv_bipush (v := 39) hx hb dX4_undo_28 (by decide) ?_
  refine lv_aload_n hx hb dX4_undo_30 rfl (lv_at hl 0 rfl) ?_
  refine k_get (v := .int 0) S G 0 rfl rfl hiX4 3 (by decide) hf26 rfl dX4_undo_31 ?_
  refine lv_imul hx hb dX4_undo_34 ?_
  refine lv_lit (v := 0) (by decide) ?_
  refine lv_aload_n hx hb dX4_undo_35 rfl (lv_at hl 0 rfl) ?_
  refine k_get (v := .ref nw) S G 0 rfl rfl hiX4 0 (by decide) hf7 rfl dX4_undo_36 ?_
  refine lv_iconst (v := 0) hx hb dX4_undo_39 (by decide) ?_
  refine k_callS (n := 4) (As := [.ref pa, .int 0, .ref nw, .int 0]) (rest := []) (st1 := []) (ws1 := [(y, .inr (4, [.ref nw, .ref ad, .ref pa, .int 0, .ref eA, .long hs])), (nw, .inl (cI, 39, .inl (va_cpy pf f 0 0 39))), (ad, .inl (cI, 39, .inl g)), (pa, .inl (cI, 195, .inl pf)), (eA, .inl (cI, 3, .inl z))]) S G (c_X4_copy l D cI cS pa nw 195 39 pf f 0 0 (by unfold cpOk; decide)) gX4_undo_X4_copy rfl (by decide +kernel) ⟨⟨rfl, rfl⟩, Nat.le_of_ble_eq_true rfl, Nat.le_of_ble_eq_true rfl⟩ [3, 1] (by decide) rfl [pa, nw] rfl rfl rfl hl.1 rfl (Nat.le_of_ble_eq_true rfl) ⟨Nat.zero_le _, Nat.zero_le _⟩ dX4_undo_40 rfl rfl (fun H locs G => ?_)
  refine lv_aload_n hx hb dX4_undo_43 rfl (lv_at hl 0 rfl) ?_
  refine k_get (v := .int 0) S G 0 rfl rfl hiX4 3 (by decide) hf26 rfl dX4_undo_44 ?_
  exact k_iret S G hr hlk dX4_undo_47 rfl rfl
set_option maxHeartbeats 4000000 in
set_option maxRecDepth 100000 in
theorem c_X4_undo_2 (l : Launch) (D : va_G) (cI cS : ClassId) (y : Nat) (nw : Nat) (ad : Nat) (pa : Nat) (eA : Nat) (hs : Int64) (f : Nat → Int32) (g : Nat → Int32) (pf : Nat → Int32) (z : Nat → Int32) : Ct l yX4_undo wsX4_undo ({ frames := 1, cells := 0, slots := 0, locals := 24 }) D (tyL cI cS) [.ref y] [(y, .inr (4, [.ref nw, .ref ad, .ref pa, .int 2, .ref eA, .long hs])), (nw, .inl (cI, 39, .inl f)), (ad, .inl (cI, 39, .inl g)), (pa, .inl (cI, 195, .inl pf)), (eA, .inl (cI, 3, .inl z))] (some (.int 1)) [(y, .inr (4, [.ref nw, .ref ad, .ref pa, .int 1, .ref eA, .long hs])), (nw, .inl (cI, 39, .inl (va_cpy pf f 39 0 39))), (ad, .inl (cI, 39, .inl g)), (pa, .inl (cI, 195, .inl pf)), (eA, .inl (cI, 3, .inl z))] := by
  refine Ct.of (cc := cX4_undo) (maxL := 1) (ret := (some .int)) (by decide) rfl (Nat.le_of_ble_eq_true rfl) ?_
  intro p ev s m args below meth c A ls S hr hlk G hl
  have hx := S.1
  have hb := S.2.1
  have hown : s.vm.findClass RX4 = some m.cls := S.2.2.2.1
  have hts := S.2.2.2.2
  have hl : lv_has ls 1 [(0, .ref y)] := hl
  have hiX4 : ∀ w ∈ wsX40, w ∈ wsX4_undo := by decide +kernel
  have hf7 := hts (.fieldLink RX4 7 "StrikingWorkModel" "now" "[I") (by decide +kernel)
  have hf16 := hts (.fieldLink RX4 16 "StrikingWorkModel" "past" "[I") (by decide +kernel)
  have hf26 := hts (.fieldLink RX4 26 "StrikingWorkModel" "states" "I") (by decide +kernel)
  refine lv_aload_n hx hb dX4_undo_0 rfl (lv_at hl 0 rfl) ?_
  refine k_get (v := .int 2) S G 0 rfl rfl hiX4 3 (by decide) hf26 rfl dX4_undo_1 ?_
  refine lv_if_ne (tgt := 14) hx hb dX4_undo_4 (by decide) (fun c_1 => ?_) (fun c_1 => absurd c_1 (by decide))
  refine lv_aload_n hx hb dX4_undo_14 rfl (lv_at hl 0 rfl) ?_
  refine lv_dup hx hb dX4_undo_15 rfl ?_
  refine k_get (v := .int 2) S G 0 rfl rfl hiX4 3 (by decide) hf26 rfl dX4_undo_16 ?_
  refine lv_iconst (v := 1) hx hb dX4_undo_19 (by decide) ?_
  refine lv_isub hx hb dX4_undo_20 ?_
  refine lv_lit (v := 1) (by decide) ?_
  refine k_put (ws1 := [(y, .inr (4, [.ref nw, .ref ad, .ref pa, .int 1, .ref eA, .long hs])), (nw, .inl (cI, 39, .inl f)), (ad, .inl (cI, 39, .inl g)), (pa, .inl (cI, 195, .inl pf)), (eA, .inl (cI, 3, .inl z))]) S G 0 rfl rfl hiX4 tyX4 tyX4_ok nmX4 3 (by decide) hf26 rfl rfl rfl (Nat.le_of_ble_eq_true rfl) dX4_undo_21 rfl (fun H locs G => ?_)
  refine lv_aload_n hx hb dX4_undo_24 rfl (lv_at hl 0 rfl) ?_
  refine k_get (v := .ref pa) S G 0 rfl rfl hiX4 2 (by decide) hf16 rfl dX4_undo_25 ?_
  refine lv_bipush (v := 39) hx hb dX4_undo_28 (by decide) ?_
  refine lv_aload_n hx hb dX4_undo_30 rfl (lv_at hl 0 rfl) ?_
  refine k_get (v := .int 1) S G 0 rfl rfl hiX4 3 (by decide) hf26 rfl dX4_undo_31 ?_
  refine lv_imul hx hb dX4_undo_34 ?_
  refine lv_lit (v := 39) (by decide) ?_
  refine lv_aload_n hx hb dX4_undo_35 rfl (lv_at hl 0 rfl) ?_
  refine k_get (v := .ref nw) S G 0 rfl rfl hiX4 0 (by decide) hf7 rfl dX4_undo_36 ?_
  refine lv_iconst (v := 0) hx hb dX4_undo_39 (by decide) ?_
  refine k_callS (n := 4) (As := [.ref pa, .int 39, .ref nw, .int 0]) (rest := []) (st1 := []) (ws1 := [(y, .inr (4, [.ref nw, .ref ad, .ref pa, .int 1, .ref eA, .long hs])), (nw, .inl (cI, 39, .inl (va_cpy pf f 39 0 39))), (ad, .inl (cI, 39, .inl g)), (pa, .inl (cI, 195, .inl pf)), (eA, .inl (cI, 3, .inl z))]) S G (c_X4_copy l D cI cS pa nw 195 39 pf f 39 0 (by unfold cpOk; decide)) gX4_undo_X4_copy rfl (by decide +kernel) ⟨⟨rfl, rfl⟩, Nat.le_of_ble_eq_true rfl, Nat.le_of_ble_eq_true rfl⟩ [3, 1] (by decide) rfl [pa, nw] rfl rfl rfl hl.1 rfl (Nat.le_of_ble_eq_true rfl) ⟨Nat.zero_le _, Nat.zero_le _⟩ dX4_undo_40 rfl rfl (fun H locs G => ?_)
  refine lv_aload_n hx hb dX4_undo_43 rfl (lv_at hl 0 rfl) ?_
  refine k_get (v := .int 1) S G 0 rfl rfl hiX4 3 (by decide) hf26 rfl dX4_undo_44 ?_
  exact k_iret S G hr hlk dX4_undo_47 rfl rfl
set_option maxHeartbeats 4000000 in
set_option maxRecDepth 100000 in
theorem c_X4_undo_3 (l : Launch) (D : va_G) (cI cS : ClassId) (y : Nat) (nw : Nat) (ad : Nat) (pa : Nat) (eA : Nat) (hs : Int64) (f : Nat → Int32) (g : Nat → Int32) (pf : Nat → Int32) (z : Nat → Int32) : Ct l yX4_undo wsX4_undo ({ frames := 1, cells := 0, slots := 0, locals := 24 }) D (tyL cI cS) [.ref y] [(y, .inr (4, [.ref nw, .ref ad, .ref pa, .int 3, .ref eA, .long hs])), (nw, .inl (cI, 39, .inl f)), (ad, .inl (cI, 39, .inl g)), (pa, .inl (cI, 195, .inl pf)), (eA, .inl (cI, 3, .inl z))] (some (.int 2)) [(y, .inr (4, [.ref nw, .ref ad, .ref pa, .int 2, .ref eA, .long hs])), (nw, .inl (cI, 39, .inl (va_cpy pf f 78 0 39))), (ad, .inl (cI, 39, .inl g)), (pa, .inl (cI, 195, .inl pf)), (eA, .inl (cI, 3, .inl z))] := by
  refine Ct.of (cc := cX4_undo) (maxL := 1) (ret := (some .int)) (by decide) rfl (Nat.le_of_ble_eq_true rfl) ?_
  intro p ev s m args below meth c A ls S hr hlk G hl
  have hx := S.1
  have hb := S.2.1
  have hown : s.vm.findClass RX4 = some m.cls := S.2.2.2.1
  have hts := S.2.2.2.2
  have hl : lv_has ls 1 [(0, .ref y)] := hl
  have hiX4 : ∀ w ∈ wsX40, w ∈ wsX4_undo := by decide +kernel
  have hf7 := hts (.fieldLink RX4 7 "StrikingWorkModel" "now" "[I") (by decide +kernel)
  have hf16 := hts (.fieldLink RX4 16 "StrikingWorkModel" "past" "[I") (by decide +kernel)
  have hf26 := hts (.fieldLink RX4 26 "StrikingWorkModel" "states" "I") (by decide +kernel)
  refine lv_aload_n hx hb dX4_undo_0 rfl (lv_at hl 0 rfl) ?_
  refine k_get (v := .int 3) S G 0 rfl rfl hiX4 3 (by decide) hf26 rfl dX4_undo_1 ?_
  refine lv_if_ne (tgt := 14) hx hb dX4_undo_4 (by decide) (fun c_1 => ?_) (fun c_1 => absurd c_1 (by decide))
  refine lv_aload_n hx hb dX4_undo_14 rfl (lv_at hl 0 rfl) ?_
  refine lv_dup hx hb dX4_undo_15 rfl ?_
  refine k_get (v := .int 3) S G 0 rfl rfl hiX4 3 (by decide) hf26 rfl dX4_undo_16 ?_
  refine lv_iconst (v := 1) hx hb dX4_undo_19 (by decide) ?_
  refine lv_isub hx hb dX4_undo_20 ?_
  refine lv_lit (v := 2) (by decide) ?_
  refine k_put (ws1 := [(y, .inr (4, [.ref nw, .ref ad, .ref pa, .int 2, .ref eA, .long hs])), (nw, .inl (cI, 39, .inl f)), (ad, .inl (cI, 39, .inl g)), (pa, .inl (cI, 195, .inl pf)), (eA, .inl (cI, 3, .inl z))]) S G 0 rfl rfl hiX4 tyX4 tyX4_ok nmX4 3 (by decide) hf26 rfl rfl rfl (Nat.le_of_ble_eq_true rfl) dX4_undo_21 rfl (fun H locs G => ?_)
  refine lv_aload_n hx hb dX4_undo_24 rfl (lv_at hl 0 rfl) ?_
  refine k_get (v := .ref pa) S G 0 rfl rfl hiX4 2 (by decide) hf16 rfl dX4_undo_25 ?_
  refine lv_bipush (v := 39) hx hb dX4_undo_28 (by decide) ?_
  refine lv_aload_n hx hb dX4_undo_30 rfl (lv_at hl 0 rfl) ?_
  refine k_get (v := .int 2) S G 0 rfl rfl hiX4 3 (by decide) hf26 rfl dX4_undo_31 ?_
  refine lv_imul hx hb dX4_undo_34 ?_
  refine lv_lit (v := 78) (by decide) ?_
  refine lv_aload_n hx hb dX4_undo_35 rfl (lv_at hl 0 rfl) ?_
  refine k_get (v := .ref nw) S G 0 rfl rfl hiX4 0 (by decide) hf7 rfl dX4_undo_36 ?_
  refine lv_iconst (v := 0) hx hb dX4_undo_39 (by decide) ?_
  refine k_callS (n := 4) (As := [.ref pa, .int 78, .ref nw, .int 0]) (rest := []) (st1 := []) (ws1 := [(y, .inr (4, [.ref nw, .ref ad, .ref pa, .int 2, .ref eA, .long hs])), (nw, .inl (cI, 39, .inl (va_cpy pf f 78 0 39))), (ad, .inl (cI, 39, .inl g)), (pa, .inl (cI, 195, .inl pf)), (eA, .inl (cI, 3, .inl z))]) S G (c_X4_copy l D cI cS pa nw 195 39 pf f 78 0 (by unfold cpOk; decide)) gX4_undo_X4_copy rfl (by decide +kernel) ⟨⟨rfl, rfl⟩, Nat.le_of_ble_eq_true rfl, Nat.le_of_ble_eq_true rfl⟩ [3, 1] (by decide) rfl [pa, nw] rfl rfl rfl hl.1 rfl (Nat.le_of_ble_eq_true rfl) ⟨Nat.zero_le _, Nat.zero_le _⟩ dX4_undo_40 rfl rfl (fun H locs G => ?_)
  refine lv_aload_n hx hb dX4_undo_43 rfl (lv_at hl 0 rfl) ?_
  refine k_get (v := .int 2) S G 0 rfl rfl hiX4 3 (by decide) hf26 rfl dX4_undo_44 ?_
  exact k_iret S G hr hlk dX4_undo_47 rfl rfl
set_option maxHeartbeats 4000000 in
set_option maxRecDepth 100000 in
theorem c_X4_undo_4 (l : Launch) (D : va_G) (cI cS : ClassId) (y : Nat) (nw : Nat) (ad : Nat) (pa : Nat) (eA : Nat) (hs : Int64) (f : Nat → Int32) (g : Nat → Int32) (pf : Nat → Int32) (z : Nat → Int32) : Ct l yX4_undo wsX4_undo ({ frames := 1, cells := 0, slots := 0, locals := 24 }) D (tyL cI cS) [.ref y] [(y, .inr (4, [.ref nw, .ref ad, .ref pa, .int 4, .ref eA, .long hs])), (nw, .inl (cI, 39, .inl f)), (ad, .inl (cI, 39, .inl g)), (pa, .inl (cI, 195, .inl pf)), (eA, .inl (cI, 3, .inl z))] (some (.int 3)) [(y, .inr (4, [.ref nw, .ref ad, .ref pa, .int 3, .ref eA, .long hs])), (nw, .inl (cI, 39, .inl (va_cpy pf f 117 0 39))), (ad, .inl (cI, 39, .inl g)), (pa, .inl (cI, 195, .inl pf)), (eA, .inl (cI, 3, .inl z))] := by
  refine Ct.of (cc := cX4_undo) (maxL := 1) (ret := (some .int)) (by decide) rfl (Nat.le_of_ble_eq_true rfl) ?_
  intro p ev s m args below meth c A ls S hr hlk G hl
  have hx := S.1
  have hb := S.2.1
  have hown : s.vm.findClass RX4 = some m.cls := S.2.2.2.1
  have hts := S.2.2.2.2
  have hl : lv_has ls 1 [(0, .ref y)] := hl
  have hiX4 : ∀ w ∈ wsX40, w ∈ wsX4_undo := by decide +kernel
  have hf7 := hts (.fieldLink RX4 7 "StrikingWorkModel" "now" "[I") (by decide +kernel)
  have hf16 := hts (.fieldLink RX4 16 "StrikingWorkModel" "past" "[I") (by decide +kernel)
  have hf26 := hts (.fieldLink RX4 26 "StrikingWorkModel" "states" "I") (by decide +kernel)
  refine lv_aload_n hx hb dX4_undo_0 rfl (lv_at hl 0 rfl) ?_
  refine k_get (v := .int 4) S G 0 rfl rfl hiX4 3 (by decide) hf26 rfl dX4_undo_1 ?_
  refine lv_if_ne (tgt := 14) hx hb dX4_undo_4 (by decide) (fun c_1 => ?_) (fun c_1 => absurd c_1 (by decide))
  refine lv_aload_n hx hb dX4_undo_14 rfl (lv_at hl 0 rfl) ?_
  refine lv_dup hx hb dX4_undo_15 rfl ?_
  refine k_get (v := .int 4) S G 0 rfl rfl hiX4 3 (by decide) hf26 rfl dX4_undo_16 ?_
  refine lv_iconst (v := 1) hx hb dX4_undo_19 (by decide) ?_
  refine lv_isub hx hb dX4_undo_20 ?_
  refine lv_lit (v := 3) (by decide) ?_
  refine k_put (ws1 := [(y, .inr (4, [.ref nw, .ref ad, .ref pa, .int 3, .ref eA, .long hs])), (nw, .inl (cI, 39, .inl f)), (ad, .inl (cI, 39, .inl g)), (pa, .inl (cI, 195, .inl pf)), (eA, .inl (cI, 3, .inl z))]) S G 0 rfl rfl hiX4 tyX4 tyX4_ok nmX4 3 (by decide) hf26 rfl rfl rfl (Nat.le_of_ble_eq_true rfl) dX4_undo_21 rfl (fun H locs G => ?_)
  refine lv_aload_n hx hb dX4_undo_24 rfl (lv_at hl 0 rfl) ?_
  refine k_get (v := .ref pa) S G 0 rfl rfl hiX4 2 (by decide) hf16 rfl dX4_undo_25 ?_
  refine lv_bipush (v := 39) hx hb dX4_undo_28 (by decide) ?_
  refine lv_aload_n hx hb dX4_undo_30 rfl (lv_at hl 0 rfl) ?_
  refine k_get (v := .int 3) S G 0 rfl rfl hiX4 3 (by decide) hf26 rfl dX4_undo_31 ?_
  refine lv_imul hx hb dX4_undo_34 ?_
  refine lv_lit (v := 117) (by decide) ?_
  refine lv_aload_n hx hb dX4_undo_35 rfl (lv_at hl 0 rfl) ?_
  refine k_get (v := .ref nw) S G 0 rfl rfl hiX4 0 (by decide) hf7 rfl dX4_undo_36 ?_
  refine lv_iconst (v := 0) hx hb dX4_undo_39 (by decide) ?_
  refine k_callS (n := 4) (As := [.ref pa, .int 117, .ref nw, .int 0]) (rest := []) (st1 := []) (ws1 := [(y, .inr (4, [.ref nw, .ref ad, .ref pa, .int 3, .ref eA, .long hs])), (nw, .inl (cI, 39, .inl (va_cpy pf f 117 0 39))), (ad, .inl (cI, 39, .inl g)), (pa, .inl (cI, 195, .inl pf)), (eA, .inl (cI, 3, .inl z))]) S G (c_X4_copy l D cI cS pa nw 195 39 pf f 117 0 (by unfold cpOk; decide)) gX4_undo_X4_copy rfl (by decide +kernel) ⟨⟨rfl, rfl⟩, Nat.le_of_ble_eq_true rfl, Nat.le_of_ble_eq_true rfl⟩ [3, 1] (by decide) rfl [pa, nw] rfl rfl rfl hl.1 rfl (Nat.le_of_ble_eq_true rfl) ⟨Nat.zero_le _, Nat.zero_le _⟩ dX4_undo_40 rfl rfl (fun H locs G => ?_)
  refine lv_aload_n hx hb dX4_undo_43 rfl (lv_at hl 0 rfl) ?_
  refine k_get (v := .int 3) S G 0 rfl rfl hiX4 3 (by decide) hf26 rfl dX4_undo_44 ?_
  exact k_iret S G hr hlk dX4_undo_47 rfl rfl
set_option maxHeartbeats 4000000 in
set_option maxRecDepth 100000 in
theorem c_X4_undo_5 (l : Launch) (D : va_G) (cI cS : ClassId) (y : Nat) (nw : Nat) (ad : Nat) (pa : Nat) (eA : Nat) (hs : Int64) (f : Nat → Int32) (g : Nat → Int32) (pf : Nat → Int32) (z : Nat → Int32) : Ct l yX4_undo wsX4_undo ({ frames := 1, cells := 0, slots := 0, locals := 24 }) D (tyL cI cS) [.ref y] [(y, .inr (4, [.ref nw, .ref ad, .ref pa, .int 5, .ref eA, .long hs])), (nw, .inl (cI, 39, .inl f)), (ad, .inl (cI, 39, .inl g)), (pa, .inl (cI, 195, .inl pf)), (eA, .inl (cI, 3, .inl z))] (some (.int 4)) [(y, .inr (4, [.ref nw, .ref ad, .ref pa, .int 4, .ref eA, .long hs])), (nw, .inl (cI, 39, .inl (va_cpy pf f 156 0 39))), (ad, .inl (cI, 39, .inl g)), (pa, .inl (cI, 195, .inl pf)), (eA, .inl (cI, 3, .inl z))] := by
  refine Ct.of (cc := cX4_undo) (maxL := 1) (ret := (some .int)) (by decide) rfl (Nat.le_of_ble_eq_true rfl) ?_
  intro p ev s m args below meth c A ls S hr hlk G hl
  have hx := S.1
  have hb := S.2.1
  have hown : s.vm.findClass RX4 = some m.cls := S.2.2.2.1
  have hts := S.2.2.2.2
  have hl : lv_has ls 1 [(0, .ref y)] := hl
  have hiX4 : ∀ w ∈ wsX40, w ∈ wsX4_undo := by decide +kernel
  have hf7 := hts (.fieldLink RX4 7 "StrikingWorkModel" "now" "[I") (by decide +kernel)
  have hf16 := hts (.fieldLink RX4 16 "StrikingWorkModel" "past" "[I") (by decide +kernel)
  have hf26 := hts (.fieldLink RX4 26 "StrikingWorkModel" "states" "I") (by decide +kernel)
  refine lv_aload_n hx hb dX4_undo_0 rfl (lv_at hl 0 rfl) ?_
  refine k_get (v := .int 5) S G 0 rfl rfl hiX4 3 (by decide) hf26 rfl dX4_undo_1 ?_
  refine lv_if_ne (tgt := 14) hx hb dX4_undo_4 (by decide) (fun c_1 => ?_) (fun c_1 => absurd c_1 (by decide))
  refine lv_aload_n hx hb dX4_undo_14 rfl (lv_at hl 0 rfl) ?_
  refine lv_dup hx hb dX4_undo_15 rfl ?_
  refine k_get (v := .int 5) S G 0 rfl rfl hiX4 3 (by decide) hf26 rfl dX4_undo_16 ?_
  refine lv_iconst (v := 1) hx hb dX4_undo_19 (by decide) ?_
  refine lv_isub hx hb dX4_undo_20 ?_
  refine lv_lit (v := 4) (by decide) ?_
  refine k_put (ws1 := [(y, .inr (4, [.ref nw, .ref ad, .ref pa, .int 4, .ref eA, .long hs])), (nw, .inl (cI, 39, .inl f)), (ad, .inl (cI, 39, .inl g)), (pa, .inl (cI, 195, .inl pf)), (eA, .inl (cI, 3, .inl z))]) S G 0 rfl rfl hiX4 tyX4 tyX4_ok nmX4 3 (by decide) hf26 rfl rfl rfl (Nat.le_of_ble_eq_true rfl) dX4_undo_21 rfl (fun H locs G => ?_)
  refine lv_aload_n hx hb dX4_undo_24 rfl (lv_at hl 0 rfl) ?_
  refine k_get (v := .ref pa) S G 0 rfl rfl hiX4 2 (by decide) hf16 rfl dX4_undo_25 ?_
  refine lv_bipush (v := 39) hx hb dX4_undo_28 (by decide) ?_
  refine lv_aload_n hx hb dX4_undo_30 rfl (lv_at hl 0 rfl) ?_
  refine k_get (v := .int 4) S G 0 rfl rfl hiX4 3 (by decide) hf26 rfl dX4_undo_31 ?_
  refine lv_imul hx hb dX4_undo_34 ?_
  refine lv_lit (v := 156) (by decide) ?_
  refine lv_aload_n hx hb dX4_undo_35 rfl (lv_at hl 0 rfl) ?_
  refine k_get (v := .ref nw) S G 0 rfl rfl hiX4 0 (by decide) hf7 rfl dX4_undo_36 ?_
  refine lv_iconst (v := 0) hx hb dX4_undo_39 (by decide) ?_
  refine k_callS (n := 4) (As := [.ref pa, .int 156, .ref nw, .int 0]) (rest := []) (st1 := []) (ws1 := [(y, .inr (4, [.ref nw, .ref ad, .ref pa, .int 4, .ref eA, .long hs])), (nw, .inl (cI, 39, .inl (va_cpy pf f 156 0 39))), (ad, .inl (cI, 39, .inl g)), (pa, .inl (cI, 195, .inl pf)), (eA, .inl (cI, 3, .inl z))]) S G (c_X4_copy l D cI cS pa nw 195 39 pf f 156 0 (by unfold cpOk; decide)) gX4_undo_X4_copy rfl (by decide +kernel) ⟨⟨rfl, rfl⟩, Nat.le_of_ble_eq_true rfl, Nat.le_of_ble_eq_true rfl⟩ [3, 1] (by decide) rfl [pa, nw] rfl rfl rfl hl.1 rfl (Nat.le_of_ble_eq_true rfl) ⟨Nat.zero_le _, Nat.zero_le _⟩ dX4_undo_40 rfl rfl (fun H locs G => ?_)
  refine lv_aload_n hx hb dX4_undo_43 rfl (lv_at hl 0 rfl) ?_
  refine k_get (v := .int 4) S G 0 rfl rfl hiX4 3 (by decide) hf26 rfl dX4_undo_44 ?_
  exact k_iret S G hr hlk dX4_undo_47 rfl rfl
def mUf (sn : Int32) (pf f : Nat → Int32) : Nat → Int32 := if sn = 0 then f else va_cpy pf f (39 * (sn - 1)).toNatClampNeg 0 39
set_option maxHeartbeats 4000000 in
set_option maxRecDepth 100000 in
theorem c_X4_undo (l : Launch) (D : va_G) (cI cS : ClassId) (y : Nat) (nw : Nat) (ad : Nat) (pa : Nat) (eA : Nat) (sn : Int32) (hs : Int64) (f : Nat → Int32) (g : Nat → Int32) (pf : Nat → Int32) (z : Nat → Int32) (hsn : scOk sn) : Ct l yX4_undo wsX4_undo ({ frames := 1, cells := 0, slots := 0, locals := 24 }) D (tyL cI cS) [.ref y] [(y, .inr (4, [.ref nw, .ref ad, .ref pa, .int sn, .ref eA, .long hs])), (nw, .inl (cI, 39, .inl f)), (ad, .inl (cI, 39, .inl g)), (pa, .inl (cI, 195, .inl pf)), (eA, .inl (cI, 3, .inl z))] (some (.int (uRet sn))) [(y, .inr (4, [.ref nw, .ref ad, .ref pa, .int (uSc sn), .ref eA, .long hs])), (nw, .inl (cI, 39, .inl (mUf sn pf f))), (ad, .inl (cI, 39, .inl g)), (pa, .inl (cI, 195, .inl pf)), (eA, .inl (cI, 3, .inl (uZ sn z)))] := by
  rcases scOk_cases hsn with rfl | rfl | rfl | rfl | rfl | rfl
  · exact c_X4_undo_0 l D cI cS y nw ad pa eA hs f g pf z
  · exact c_X4_undo_1 l D cI cS y nw ad pa eA hs f g pf z
  · exact c_X4_undo_2 l D cI cS y nw ad pa eA hs f g pf z
  · exact c_X4_undo_3 l D cI cS y nw ad pa eA hs f g pf z
  · exact c_X4_undo_4 l D cI cS y nw ad pa eA hs f g pf z
  · exact c_X4_undo_5 l D cI cS y nw ad pa eA hs f g pf z
