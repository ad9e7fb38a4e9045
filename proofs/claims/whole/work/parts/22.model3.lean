def s_X4_silentAt (f : Nat → Int32) (q : Int32) : Int32 := (if (f 1) = 0 then 0 else (if (f 2) = (f 3) then 0 else (if (f 3) ≤ (f 2) then (if (f 2) ≤ q then 1 else (if (f 3) ≤ q then 0 else 1)) else (if q < (f 2) then 0 else (if (f 3) ≤ q then 0 else 1)))))
set_option maxHeartbeats 4000000 in
set_option maxRecDepth 100000 in
theorem c_X4_silentAt (l : Launch) (D : va_G) (cI cS : ClassId) (y : Nat) (nw : Nat) (ad : Nat) (pa : Nat) (eA : Nat) (sn : Int32) (hs : Int64) (f : Nat → Int32) (g : Nat → Int32) (pf : Nat → Int32) (z : Nat → Int32) (q : Int32) : Ct l yX4_silentAt wsX4_silentAt ({ frames := 0, cells := 0, slots := 0, locals := 0 }) D (tyL cI cS) [.ref y, .int q] [(y, .inr (4, [.ref nw, .ref ad, .ref pa, .int sn, .ref eA, .long hs])), (nw, .inl (cI, 39, .inl f)), (ad, .inl (cI, 39, .inl g)), (pa, .inl (cI, 195, .inl pf)), (eA, .inl (cI, 3, .inl z))] (some (.int (s_X4_silentAt f q))) [(y, .inr (4, [.ref nw, .ref ad, .ref pa, .int sn, .ref eA, .long hs])), (nw, .inl (cI, 39, .inl f)), (ad, .inl (cI, 39, .inl g)), (pa, .inl (cI, 195, .inl pf)), (eA, .inl (cI, 3, .inl z))] := by
  refine Ct.of (cc := cX4_silentAt) (maxL := 4) (ret := (some .boolean)) (by decide) rfl (Nat.le_of_ble_eq_true rfl) ?_
  intro p ev s m args below meth c A ls S hr hlk G hl
  have hx := S.1
  have hb := S.2.1
  have hown : s.vm.findClass RX4 = some m.cls := S.2.2.2.1
  have hts := S.2.2.2.2
  have hl : lv_has ls 4 [(0, .ref y), (1, .int q)] := hl
  have hiX4 : ∀ w ∈ wsX40, w ∈ wsX4_silentAt := by decide +kernel
  have hf7 := hts (.fieldLink RX4 7 "StrikingWorkModel" "now" "[I") (by decide +kernel)
  refine lv_aload_n hx hb dX4_silentAt_0 rfl (lv_at hl 0 rfl) ?_
  refine k_get (v := .ref nw) S G 0 rfl rfl hiX4 0 (by decide) hf7 rfl dX4_silentAt_1 ?_
  refine lv_iconst (v := 2) hx hb dX4_silentAt_4 (by decide) ?_
  refine k_iald (x := (f 2)) S G 1 0 rfl rfl (by unfold vp_in; decide) rfl dX4_silentAt_5 ?_
  refine lv_istore_n (lv' := [(2, .int (f 2)), (0, .ref y), (1, .int q)]) hx hb dX4_silentAt_6 rfl hl (by decide) rfl (fun ls hl => ?_)
  refine lv_aload_n hx hb dX4_silentAt_7 rfl (lv_at hl 1 rfl) ?_
  refine k_get (v := .ref nw) S G 0 rfl rfl hiX4 0 (by decide) hf7 rfl dX4_silentAt_8 ?_
  refine lv_iconst (v := 3) hx hb dX4_silentAt_11 (by decide) ?_
  refine k_iald (x := (f 3)) S G 1 0 rfl rfl (by unfold vp_in; decide) rfl dX4_silentAt_12 ?_
  refine lv_istore_n (lv' := [(3, .int (f 3)), (2, .int (f 2)), (0, .ref y), (1, .int q)]) hx hb dX4_silentAt_13 rfl hl (by decide) rfl (fun ls hl => ?_)
  refine lv_aload_n hx hb dX4_silentAt_14 rfl (lv_at hl 2 rfl) ?_
  refine k_get (v := .ref nw) S G 0 rfl rfl hiX4 0 (by decide) hf7 rfl dX4_silentAt_15 ?_
  refine lv_iconst (v := 1) hx hb dX4_silentAt_18 (by decide) ?_
  refine k_iald (x := (f 1)) S G 1 0 rfl rfl (by unfold vp_in; decide) rfl dX4_silentAt_19 ?_
  refine lv_if_eq (tgt := 28) hx hb dX4_silentAt_20 (by decide) (fun c_1 => ?_) (fun c_1 => ?_)
  · skip
    refine lv_iconst (v := 0) hx hb dX4_silentAt_28 (by decide) ?_
    have es : (s_X4_silentAt f q) = 0 := by rw [s_X4_silentAt, if_pos c_1]
    exact k_zret S G hr hlk dX4_silentAt_29 (by decide) (by first | (rw [es]; done) | (rw [es]; rfl) | (simp only [es]; done) | (simp only [es]; rfl)) rfl
  · skip
    refine lv_iload_n hx hb dX4_silentAt_23 rfl (lv_at hl 1 rfl) ?_
    refine lv_iload_n hx hb dX4_silentAt_24 rfl (lv_at hl 0 rfl) ?_
    refine lv_icmp_ne (tgt := 30) hx hb dX4_silentAt_25 (by decide) (fun c_2 => ?_) (fun c_2 => ?_)
    · skip
      refine lv_iload_n hx hb dX4_silentAt_30 rfl (lv_at hl 1 rfl) ?_
      refine lv_iload_n hx hb dX4_silentAt_31 rfl (lv_at hl 0 rfl) ?_
      refine lv_icmp_ge (tgt := 53) hx hb dX4_silentAt_32 (by decide) (fun c_3 => ?_) (fun c_3 => ?_)
      · skip
        refine lv_iload_n hx hb dX4_silentAt_53 rfl (lv_at hl 3 rfl) ?_
        refine lv_iload_n hx hb dX4_silentAt_54 rfl (lv_at hl 1 rfl) ?_
        refine lv_icmp_ge (tgt := 63) hx hb dX4_silentAt_55 (by decide) (fun c_4 => ?_) (fun c_4 => ?_)
        · skip
          refine lv_iconst (v := 1) hx hb dX4_silentAt_63 (by decide) ?_
          refine lv_goto (tgt := 68) hx hb dX4_silentAt_64 (by decide) ?_
          have es : (s_X4_silentAt f q) = 1 := by rw [s_X4_silentAt, if_neg c_1, if_neg c_2, if_pos c_3, if_pos c_4]
          exact k_zret S G hr hlk dX4_silentAt_68 (by decide) (by first | (rw [es]; done) | (rw [es]; rfl) | (simp only [es]; done) | (simp only [es]; rfl)) rfl
        · skip
          refine lv_iload_n hx hb dX4_silentAt_58 rfl (lv_at hl 3 rfl) ?_
          refine lv_iload_n hx hb dX4_silentAt_59 rfl (lv_at hl 0 rfl) ?_
          refine lv_icmp_ge (tgt := 67) hx hb dX4_silentAt_60 (by decide) (fun c_5 => ?_) (fun c_5 => ?_)
          · skip
            refine lv_iconst (v := 0) hx hb dX4_silentAt_67 (by decide) ?_
            have es : (s_X4_silentAt f q) = 0 := by rw [s_X4_silentAt, if_neg c_1, if_neg c_2, if_pos c_3, if_neg c_4, if_pos c_5]
            exact k_zret S G hr hlk dX4_silentAt_68 (by decide) (by first | (rw [es]; done) | (rw [es]; rfl) | (simp only [es]; done) | (simp only [es]; rfl)) rfl
          · skip
            refine lv_iconst (v := 1) hx hb dX4_silentAt_63 (by decide) ?_
            refine lv_goto (tgt := 68) hx hb dX4_silentAt_64 (by decide) ?_
            have es : (s_X4_silentAt f q) = 1 := by rw [s_X4_silentAt, if_neg c_1, if_neg c_2, if_pos c_3, if_neg c_4, if_neg c_5]
            exact k_zret S G hr hlk dX4_silentAt_68 (by decide) (by first | (rw [es]; done) | (rw [es]; rfl) | (simp only [es]; done) | (simp only [es]; rfl)) rfl
      · skip
        refine lv_iload_n hx hb dX4_silentAt_35 rfl (lv_at hl 3 rfl) ?_
        refine lv_iload_n hx hb dX4_silentAt_36 rfl (lv_at hl 1 rfl) ?_
        refine lv_icmp_lt (tgt := 49) hx hb dX4_silentAt_37 (by decide) (fun c_6 => ?_) (fun c_6 => ?_)
        · skip
          refine lv_iconst (v := 0) hx hb dX4_silentAt_49 (by decide) ?_
          refine lv_goto (tgt := 68) hx hb dX4_silentAt_50 (by decide) ?_
          have es : (s_X4_silentAt f q) = 0 := by rw [s_X4_silentAt, if_neg c_1, if_neg c_2, if_neg c_3, if_pos c_6]
          exact k_zret S G hr hlk dX4_silentAt_68 (by decide) (by first | (rw [es]; done) | (rw [es]; rfl) | (simp only [es]; done) | (simp only [es]; rfl)) rfl
        · skip
          refine lv_iload_n hx hb dX4_silentAt_40 rfl (lv_at hl 3 rfl) ?_
          refine lv_iload_n hx hb dX4_silentAt_41 rfl (lv_at hl 0 rfl) ?_
          refine lv_icmp_ge (tgt := 49) hx hb dX4_silentAt_42 (by decide) (fun c_7 => ?_) (fun c_7 => ?_)
          · skip
            refine lv_iconst (v := 0) hx hb dX4_silentAt_49 (by decide) ?_
            refine lv_goto (tgt := 68) hx hb dX4_silentAt_50 (by decide) ?_
            have es : (s_X4_silentAt f q) = 0 := by rw [s_X4_silentAt, if_neg c_1, if_neg c_2, if_neg c_3, if_neg c_6, if_pos c_7]
            exact k_zret S G hr hlk dX4_silentAt_68 (by decide) (by first | (rw [es]; done) | (rw [es]; rfl) | (simp only [es]; done) | (simp only [es]; rfl)) rfl
          · skip
            refine lv_iconst (v := 1) hx hb dX4_silentAt_45 (by decide) ?_
            refine lv_goto (tgt := 68) hx hb dX4_silentAt_46 (by decide) ?_
            have es : (s_X4_silentAt f q) = 1 := by rw [s_X4_silentAt, if_neg c_1, if_neg c_2, if_neg c_3, if_neg c_6, if_neg c_7]
            exact k_zret S G hr hlk dX4_silentAt_68 (by decide) (by first | (rw [es]; done) | (rw [es]; rfl) | (simp only [es]; done) | (simp only [es]; rfl)) rfl
    · skip
      refine lv_iconst (v := 0) hx hb dX4_silentAt_28 (by decide) ?_
      have es : (s_X4_silentAt f q) = 0 := by rw [s_X4_silentAt, if_neg c_1, if_pos c_2]
      exact k_zret S G hr hlk dX4_silentAt_29 (by decide) (by first | (rw [es]; done) | (rw [es]; rfl) | (simp only [es]; done) | (simp only [es]; rfl)) rfl
theorem all39 {P : Nat → Prop} (h0 : P 0) (h1 : P 1) (h2 : P 2) (h3 : P 3) (h4 : P 4) (h5 : P 5) (h6 : P 6) (h7 : P 7) (h8 : P 8) (h9 : P 9) (h10 : P 10) (h11 : P 11) (h12 : P 12) (h13 : P 13) (h14 : P 14) (h15 : P 15) (h16 : P 16) (h17 : P 17) (h18 : P 18) (h19 : P 19) (h20 : P 20) (h21 : P 21) (h22 : P 22) (h23 : P 23) (h24 : P 24) (h25 : P 25) (h26 : P 26) (h27 : P 27) (h28 : P 28) (h29 : P 29) (h30 : P 30) (h31 : P 31) (h32 : P 32) (h33 : P 33) (h34 : P 34) (h35 : P 35) (h36 : P 36) (h37 : P 37) (h38 : P 38) : ∀ i, i < 39 → P i := by
  intro i hi
  match i, hi with
  | 0, _ => exact h0
  | 1, _ => exact h1
  | 2, _ => exact h2
  | 3, _ => exact h3
  | 4, _ => exact h4
  | 5, _ => exact h5
  | 6, _ => exact h6
  | 7, _ => exact h7
  | 8, _ => exact h8
  | 9, _ => exact h9
  | 10, _ => exact h10
  | 11, _ => exact h11
  | 12, _ => exact h12
  | 13, _ => exact h13
  | 14, _ => exact h14
  | 15, _ => exact h15
  | 16, _ => exact h16
  | 17, _ => exact h17
  | 18, _ => exact h18
  | 19, _ => exact h19
  | 20, _ => exact h20
  | 21, _ => exact h21
  | 22, _ => exact h22
  | 23, _ => exact h23
  | 24, _ => exact h24
  | 25, _ => exact h25
  | 26, _ => exact h26
  | 27, _ => exact h27
  | 28, _ => exact h28
  | 29, _ => exact h29
  | 30, _ => exact h30
  | 31, _ => exact h31
  | 32, _ => exact h32
  | 33, _ => exact h33
  | 34, _ => exact h34
  | 35, _ => exact h35
  | 36, _ => exact h36
  | 37, _ => exact h37
  | 38, _ => exact h38
  | n + 39, h => exact absurd h (by omega)
def recF (f : Nat → Int32) (tr bl cn : Int32) : Nat → Int32 := fun i => if i = 14 then cn else if i = 15 then f 0 else if i = 16 then tr else if i = 17 then bl else if 19 ≤ i then f (i - 4) else f i
def s_X4_record (f : Nat → Int32) (tr : Int32) (bl : Int32) : (Nat → Int32) := (if 6 ≤ (f 14) then (recF f tr bl ((f 14) + 0)) else (recF f tr bl ((f 14) + 1)))
set_option maxHeartbeats 4000000 in
set_option maxRecDepth 100000 in
theorem c_X4_record (l : Launch) (D : va_G) (cI cS : ClassId) (y : Nat) (nw : Nat) (ad : Nat) (pa : Nat) (eA : Nat) (sn : Int32) (hs : Int64) (f : Nat → Int32) (g : Nat → Int32) (pf : Nat → Int32) (z : Nat → Int32) (tr : Int32) (bl : Int32) : Ct l yX4_record wsX4_record ({ frames := 0, cells := 0, slots := 0, locals := 0 }) D (tyL cI cS) [.ref y, .int tr, .int bl] [(y, .inr (4, [.ref nw, .ref ad, .ref pa, .int sn, .ref eA, .long hs])), (nw, .inl (cI, 39, .inl f)), (ad, .inl (cI, 39, .inl g)), (pa, .inl (cI, 195, .inl pf)), (eA, .inl (cI, 3, .inl z))] none [(y, .inr (4, [.ref nw, .ref ad, .ref pa, .int sn, .ref eA, .long hs])), (nw, .inl (cI, 39, .inl (s_X4_record f tr bl))), (ad, .inl (cI, 39, .inl g)), (pa, .inl (cI, 195, .inl pf)), (eA, .inl (cI, 3, .inl z))] := by
  refine Ct.of (cc := cX4_record) (maxL := 4) (ret := none) (by decide) rfl (Nat.le_of_ble_eq_true rfl) ?_
  intro p ev s m args below meth c A ls S hr hlk G hl
  have hx := S.1
  have hb := S.2.1
  have hown : s.vm.findClass RX4 = some m.cls := S.2.2.2.1
  have hts := S.2.2.2.2
  have hl : lv_has ls 4 [(0, .ref y), (1, .int tr), (2, .int bl)] := hl
  have hiX4 : ∀ w ∈ wsX40, w ∈ wsX4_record := by decide +kernel
  have hf7 := hts (.fieldLink RX4 7 "StrikingWorkModel" "now" "[I") (by decide +kernel)
  refine lv_bipush (v := 23) hx hb dX4_record_0 (by decide) ?_
  refine lv_istore_n (lv' := [(3, .int 23), (0, .ref y), (1, .int tr), (2, .int bl)]) hx hb dX4_record_2 rfl hl (by decide) rfl (fun ls hl => ?_)
  refine lv_iload_n hx hb dX4_record_3 rfl (lv_at hl 0 rfl) ?_
  refine lv_iconst (v := 4) hx hb dX4_record_4 (by decide) ?_
  refine lv_icmp_lt (tgt := 34) hx hb dX4_record_5 (by decide) (fun c_1 => absurd c_1 (by decide)) (fun c_1 => ?_)
  refine lv_aload_n hx hb dX4_record_8 rfl (lv_at hl 1 rfl) ?_
  refine k_get (v := .ref nw) S G 0 rfl rfl hiX4 0 (by decide) hf7 rfl dX4_record_9 ?_
  refine lv_bipush (v := 15) hx hb dX4_record_12 (by decide) ?_
  refine lv_iload_n hx hb dX4_record_14 rfl (lv_at hl 0 rfl) ?_
  refine lv_iadd hx hb dX4_record_15 ?_
  refine lv_lit (v := 38) (by decide) ?_
  refine lv_aload_n hx hb dX4_record_16 rfl (lv_at hl 1 rfl) ?_
  refine k_get (v := .ref nw) S G 0 rfl rfl hiX4 0 (by decide) hf7 rfl dX4_record_17 ?_
  refine lv_bipush (v := 15) hx hb dX4_record_20 (by decide) ?_
  refine lv_iload_n hx hb dX4_record_22 rfl (lv_at hl 0 rfl) ?_
  refine lv_iadd hx hb dX4_record_23 ?_
  refine lv_lit (v := 38) (by decide) ?_
  refine lv_iconst (v := 4) hx hb dX4_record_24 (by decide) ?_
  refine lv_isub hx hb dX4_record_25 ?_
  refine lv_lit (v := 34) (by decide) ?_
  refine k_iald (x := (f 34)) S G 1 0 rfl rfl (by unfold vp_in; decide) rfl dX4_record_26 ?_
  refine k_iast (ws1 := [(y, .inr (4, [.ref nw, .ref ad, .ref pa, .int sn, .ref eA, .long hs])), (nw, .inl (cI, 39, .inl (upd f 38 (f 34)))), (ad, .inl (cI, 39, .inl g)), (pa, .inl (cI, 195, .inl pf)), (eA, .inl (cI, 3, .inl z))]) S G 1 0 rfl rfl (by unfold vp_in; decide) dX4_record_27 rfl (fun H locs G => ?_)
  refine lv_iinc (v := 22) (lv' := [(3, .int 22), (0, .ref y), (1, .int tr), (2, .int bl)]) hx hb dX4_record_28 hl (k := 0) rfl (by decide) (by decide) rfl (fun ls hl => ?_)
  refine lv_goto (tgt := 3) hx hb dX4_record_31 (by decide) ?_
  refine lv_iload_n hx hb dX4_record_3 rfl (lv_at hl 0 rfl) ?_
  refine lv_iconst (v := 4) hx hb dX4_record_4 (by decide) ?_
  refine lv_icmp_lt (tgt := 34) hx hb dX4_record_5 (by decide) (fun c_2 => absurd c_2 (by decide)) (fun c_2 => ?_)
  refine lv_aload_n hx hb dX4_record_8 rfl (lv_at hl 1 rfl) ?_
  refine k_get (v := .ref nw) S G 0 rfl rfl hiX4 0 (by decide) hf7 rfl dX4_record_9 ?_
  refine lv_bipush (v := 15) hx hb dX4_record_12 (by decide) ?_
  refine lv_iload_n hx hb dX4_record_14 rfl (lv_at hl 0 rfl) ?_
  refine lv_iadd hx hb dX4_record_15 ?_
  refine lv_lit (v := 37) (by decide) ?_
  refine lv_aload_n hx hb dX4_record_16 rfl (lv_at hl 1 rfl) ?_
  refine k_get (v := .ref nw) S G 0 rfl rfl hiX4 0 (by decide) hf7 rfl dX4_record_17 ?_
  refine lv_bipush (v := 15) hx hb dX4_record_20 (by decide) ?_
  refine lv_iload_n hx hb dX4_record_22 rfl (lv_at hl 0 rfl) ?_
  refine lv_iadd hx hb dX4_record_23 ?_
  refine lv_lit (v := 37) (by decide) ?_
  refine lv_iconst (v := 4) hx hb dX4_record_24 (by decide) ?_
  refine lv_isub hx hb dX4_record_25 ?_
  refine lv_lit (v := 33) (by decide) ?_
  refine k_iald (x := (f 33)) S G 1 0 rfl rfl (by unfold vp_in; decide) rfl dX4_record_26 ?_
  refine k_iast (ws1 := [(y, .inr (4, [.ref nw, .ref ad, .ref pa, .int sn, .ref eA, .long hs])), (nw, .inl (cI, 39, .inl (upd (upd f 38 (f 34)) 37 (f 33)))), (ad, .inl (cI, 39, .inl g)), (pa, .inl (cI, 195, .inl pf)), (eA, .inl (cI, 3, .inl z))]) S G 1 0 rfl rfl (by unfold vp_in; decide) dX4_record_27 rfl (fun H locs G => ?_)
  refine lv_iinc (v := 21) (lv' := [(3, .int 21), (0, .ref y), (1, .int tr), (2, .int bl)]) hx hb dX4_record_28 hl (k := 0) rfl (by decide) (by decide) rfl (fun ls hl => ?_)
  refine lv_goto (tgt := 3) hx hb dX4_record_31 (by decide) ?_
  refine lv_iload_n hx hb dX4_record_3 rfl (lv_at hl 0 rfl) ?_
  refine lv_iconst (v := 4) hx hb dX4_record_4 (by decide) ?_
  refine lv_icmp_lt (tgt := 34) hx hb dX4_record_5 (by decide) (fun c_3 => absurd c_3 (by decide)) (fun c_3 => ?_)
  refine lv_aload_n hx hb dX4_record_8 rfl (lv_at hl 1 rfl) ?_
  refine k_get (v := .ref nw) S G 0 rfl rfl hiX4 0 (by decide) hf7 rfl dX4_record_9 ?_
  refine lv_bipush (v := 15) hx hb dX4_record_12 (by decide) ?_
  refine lv_iload_n hx hb dX4_record_14 rfl (lv_at hl 0 rfl) ?_
  refine lv_iadd hx hb dX4_record_15 ?_
  refine lv_lit (v := 36) (by decide) ?_
  refine lv_aload_n hx hb dX4_record_16 rfl (lv_at hl 1 rfl) ?_
  refine k_get (v := .ref nw) S G 0 rfl rfl hiX4 0 (by decide) hf7 rfl dX4_record_17 ?_
  refine lv_bipush (v := 15) hx hb dX4_record_20 (by decide) ?_
  refine lv_iload_n hx hb dX4_record_22 rfl (lv_at hl 0 rfl) ?_
  refine lv_iadd hx hb dX4_record_23 ?_
  refine lv_lit (v := 36) (by decide) ?_
  refine lv_iconst (v := 4) hx hb dX4_record_24 (by decide) ?_
  refine lv_isub hx hb dX4_record_25 ?_
  refine lv_lit (v := 32) (by decide) ?_
  refine k_iald (x := (f 32)) S G 1 0 rfl rfl (by unfold vp_in; decide) rfl dX4_record_26 ?_
  refine k_iast (ws1 := [(y, .inr (4, [.ref nw, .ref ad, .ref pa, .int sn, .ref eA, .long hs])), (nw, .inl (cI, 39, .inl (upd (upd (upd f 38 (f 34)) 37 (f 33)) 36 (f 32)))), (ad, .inl (cI, 39, .inl g)), (pa, .inl (cI, 195, .inl pf)), (eA, .inl (cI, 3, .inl z))]) S G 1 0 rfl rfl (by unfold vp_in; decide) dX4_record_27 rfl (fun H locs G => ?_)
  refine lv_iinc (v := 20) (lv' := [(3, .int 20), (0, .ref y), (1, .int tr), (2, .int bl)]) hx hb dX4_record_28 hl (k := 0) rfl (by decide) (by decide) rfl (fun ls hl => ?_)
  refine lv_goto (tgt := 3) hx hb dX4_record_31 (by decide) ?_
  refine lv_iload_n hx hb dX4_record_3 rfl (lv_at hl 0 rfl) ?_
  refine lv_iconst (v := 4) hx hb dX4_record_4 (by decide) ?_
  refine lv_icmp_lt (tgt := 34) hx hb dX4_record_5 (by decide) (fun c_4 => absurd c_4 (by decide)) (fun c_4 => ?_)
  refine lv_aload_n hx hb dX4_record_8 rfl (lv_at hl 1 rfl) ?_
  refine k_get (v := .ref nw) S G 0 rfl rfl hiX4 0 (by decide) hf7 rfl dX4_record_9 ?_
  refine lv_bipush (v := 15) hx hb dX4_record_12 (by decide) ?_
  refine lv_iload_n hx hb dX4_record_14 rfl (lv_at hl 0 rfl) ?_
  refine lv_iadd hx hb dX4_record_15 ?_
  refine lv_lit (v := 35) (by decide) ?_
  refine lv_aload_n hx hb dX4_record_16 rfl (lv_at hl 1 rfl) ?_
  refine k_get (v := .ref nw) S G 0 rfl rfl hiX4 0 (by decide) hf7 rfl dX4_record_17 ?_
  refine lv_bipush (v := 15) hx hb dX4_record_20 (by decide) ?_
  refine lv_iload_n hx hb dX4_record_22 rfl (lv_at hl 0 rfl) ?_
  refine lv_iadd hx hb dX4_record_23 ?_
  refine lv_lit (v := 35) (by decide) ?_
  refine lv_iconst (v := 4) hx hb dX4_record_24 (by decide) ?_
  refine lv_isub hx hb dX4_record_25 ?_
  refine lv_lit (v := 31) (by decide) ?_
  refine k_iald (x := (f 31)) S G 1 0 rfl rfl (by unfold vp_in; decide) rfl dX4_record_26 ?_
  refine k_iast (ws1 := [(y, .inr (4, [.ref nw, .ref ad, .ref pa, .int sn, .ref eA, .long hs])), (nw, .inl (cI, 39, .inl (upd (upd (upd (upd f 38 (f 34)) 37 (f 33)) 36 (f 32)) 35 (f 31)))), (ad, .inl (cI, 39, .inl g)), (pa, .inl (cI, 195, .inl pf)), (eA, .inl (cI, 3, .inl z))]) S G 1 0 rfl rfl (by unfold vp_in; decide) dX4_record_27 rfl (fun H locs G => ?_)
  refine lv_iinc (v := 19) (lv' := [(3, .int 19), (0, .ref y), (1, .int tr), (2, .int bl)]) hx hb dX4_record_28 hl (k := 0) rfl (by decide) (by decide) rfl (fun ls hl => ?_)
  refine lv_goto (tgt := 3) hx hb dX4_record_31 (by decide) ?_
  refine lv_iload_n hx hb dX4_record_3 rfl (lv_at hl 0 rfl) ?_
  refine lv_iconst (v := 4) hx hb dX4_record_4 (by decide) ?_
  refine lv_icmp_lt (tgt := 34) hx hb dX4_record_5 (by decide) (fun c_5 => absurd c_5 (by decide)) (fun c_5 => ?_)
  refine lv_aload_n hx hb dX4_record_8 rfl (lv_at hl 1 rfl) ?_
  refine k_get (v := .ref nw) S G 0 rfl rfl hiX4 0 (by decide) hf7 rfl dX4_record_9 ?_
  refine lv_bipush (v := 15) hx hb dX4_record_12 (by decide) ?_
  refine lv_iload_n hx hb dX4_record_14 rfl (lv_at hl 0 rfl) ?_
  refine lv_iadd hx hb dX4_record_15 ?_
  refine lv_lit (v := 34) (by decide) ?_
  refine lv_aload_n hx hb dX4_record_16 rfl (lv_at hl 1 rfl) ?_
  refine k_get (v := .ref nw) S G 0 rfl rfl hiX4 0 (by decide) hf7 rfl dX4_record_17 ?_
  refine lv_bipush (v := 15) hx hb dX4_record_20 (by decide) ?_
  refine lv_iload_n hx hb dX4_record_22 rfl (lv_at hl 0 rfl) ?_
  refine lv_iadd hx hb dX4_record_23 ?_
  refine lv_lit (v := 34) (by decide) ?_
  refine lv_iconst (v := 4) hx hb dX4_record_24 (by decide) ?_
  refine lv_isub hx hb dX4_record_25 ?_
  refine lv_lit (v := 30) (by decide) ?_
  refine k_iald (x := (f 30)) S G 1 0 rfl rfl (by unfold vp_in; decide) rfl dX4_record_26 ?_
  refine k_iast (ws1 := [(y, .inr (4, [.ref nw, .ref ad, .ref pa, .int sn, .ref eA, .long hs])), (nw, .inl (cI, 39, .inl (upd (upd (upd (upd (upd f 38 (f 34)) 37 (f 33)) 36 (f 32)) 35 (f 31)) 34 (f 30)))), (ad, .inl (cI, 39, .inl g)), (pa, .inl (cI, 195, .inl pf)), (eA, .inl (cI, 3, .inl z))]) S G 1 0 rfl rfl (by unfold vp_in; decide) dX4_record_27 rfl (fun H locs G => ?_)
  refine lv_iinc (v := 18) (lv' := [(3, .int 18), (0, .ref y), (1, .int tr), (2, .int bl)]) hx hb dX4_record_28 hl (k := 0) rfl (by decide) (by decide) rfl (fun ls hl => ?_)
  refine lv_goto (tgt := 3) hx hb dX4_record_31 (by decide) ?_
  refine lv_iload_n hx hb dX4_record_3 rfl (lv_at hl 0 rfl) ?_
  refine lv_iconst (v := 4) hx hb dX4_record_4 (by decide) ?_
  refine lv_icmp_lt (tgt := 34) hx hb dX4_record_5 (by decide) (fun c_6 => absurd c_6 (by decide)) (fun c_6 => ?_)
  refine lv_aload_n hx hb dX4_record_8 rfl (lv_at hl 1 rfl) ?_
  refine k_get (v := .ref nw) S G 0 rfl rfl hiX4 0 (by decide) hf7 rfl dX4_record_9 ?_
  refine lv_bipush (v := 15) hx hb dX4_record_12 (by decide) ?_
  refine lv_iload_n hx hb dX4_record_14 rfl (lv_at hl 0 rfl) ?_
  refine lv_iadd hx hb dX4_record_15 ?_
  refine lv_lit (v := 33) (by decide) ?_
  refine lv_aload_n hx hb dX4_record_16 rfl (lv_at hl 1 rfl) ?_
  refine k_get (v := .ref nw) S G 0 rfl rfl hiX4 0 (by decide) hf7 rfl dX4_record_17 ?_
  refine lv_bipush (v := 15) hx hb dX4_record_20 (by decide) ?_
  refine lv_iload_n hx hb dX4_record_22 rfl (lv_at hl 0 rfl) ?_
  refine lv_iadd hx hb dX4_record_23 ?_
  refine lv_lit (v := 33) (by decide) ?_
  refine lv_iconst (v := 4) hx hb dX4_record_24 (by decide) ?_
  refine lv_isub hx hb dX4_record_25 ?_
  refine lv_lit (v := 29) (by decide) ?_
  refine k_iald (x := (f 29)) S G 1 0 rfl rfl (by unfold vp_in; decide) rfl dX4_record_26 ?_
  refine k_iast (ws1 := [(y, .inr (4, [.ref nw, .ref ad, .ref pa, .int sn, .ref eA, .long hs])), (nw, .inl (cI, 39, .inl (upd (upd (upd (upd (upd (upd f 38 (f 34)) 37 (f 33)) 36 (f 32)) 35 (f 31)) 34 (f 30)) 33 (f 29)))), (ad, .inl (cI, 39, .inl g)), (pa, .inl (cI, 195, .inl pf)), (eA, .inl (cI, 3, .inl z))]) S G 1 0 rfl rfl (by unfold vp_in; decide) dX4_record_27 rfl (fun H locs G => ?_)
  refine lv_iinc (v := 17) (lv' := [(3, .int 17), (0, .ref y), (1, .int tr), (2, .int bl)]) hx hb dX4_record_28 hl (k := 0) rfl (by decide) (by decide) rfl (fun ls hl => ?_)
  refine lv_goto (tgt := 3) hx hb dX4_record_31 (by decide) ?_
  refine lv_iload_n hx hb dX4_record_3 rfl (lv_at hl 0 rfl) ?_
  refine lv_iconst (v := 4) hx hb dX4_record_4 (by decide) ?_
  refine lv_icmp_lt (tgt := 34) hx hb dX4_record_5 (by decide) (fun c_7 => absurd c_7 (by decide)) (fun c_7 => ?_)
  refine lv_aload_n hx hb dX4_record_8 rfl (lv_at hl 1 rfl) ?_
  refine k_get (v := .ref nw) S G 0 rfl rfl hiX4 0 (by decide) hf7 rfl dX4_record_9 ?_
  refine lv_bipush (v := 15) hx hb dX4_record_12 (by decide) ?_
  refine lv_iload_n hx hb dX4_record_14 rfl (lv_at hl 0 rfl) ?_
  refine lv_iadd hx hb dX4_record_15 ?_
  refine lv_lit (v := 32) (by decide) ?_
  refine lv_aload_n hx hb dX4_record_16 rfl (lv_at hl 1 rfl) ?_
  refine k_get (v := .ref nw) S G 0 rfl rfl hiX4 0 (by decide) hf7 rfl dX4_record_17 ?_
  refine lv_bipush (v := 15) hx hb dX4_record_20 (by decide) ?_
  refine lv_iload_n hx hb dX4_record_22 rfl (lv_at hl 0 rfl) ?_
  refine lv_iadd hx hb dX4_record_23 ?_
  refine lv_lit (v := 32) (by decide) ?_
  refine lv_iconst (v := 4) hx hb dX4_record_24 (by decide) ?_
  refine lv_isub hx hb dX4_record_25 ?_
  refine lv_lit (v := 28) (by decide) ?_
  refine k_iald (x := (f 28)) S G 1 0 rfl rfl (by unfold vp_in; decide) rfl dX4_record_26 ?_
  refine k_iast (ws1 := [(y, .inr (4, [.ref nw, .ref ad, .ref pa, .int sn, .ref eA, .long hs])), (nw, .inl (cI, 39, .inl (upd (upd (upd (upd (upd (upd (upd f 38 (f 34)) 37 (f 33)) 36 (f 32)) 35 (f 31)) 34 (f 30)) 33 (f 29)) 32 (f 28)))), (ad, .inl (cI, 39, .inl g)), (pa, .inl (cI, 195, .inl pf)), (eA, .inl (cI, 3, .inl z))]) S G 1 0 rfl rfl (by unfold vp_in; decide) dX4_record_27 rfl (fun H locs G => ?_)
  refine lv_iinc (v := 16) (lv' := [(3, .int 16), (0, .ref y), (1, .int tr), (2, .int bl)]) hx hb dX4_record_28 hl (k := 0) rfl (by decide) (by decide) rfl (fun ls hl => ?_)
  refine lv_goto (tgt := 3) hx hb dX4_record_31 (by decide) ?_
  refine lv_iload_n hx hb dX4_record_3 rfl (lv_at hl 0 rfl) ?_
  refine lv_iconst (v := 4) hx hb dX4_record_4 (by decide) ?_
  refine lv_icmp_lt (tgt := 34) hx hb dX4_record_5 (by decide) (fun c_8 => absurd c_8 (by decide)) (fun c_8 => ?_)
  refine lv_aload_n hx hb dX4_record_8 rfl (lv_at hl 1 rfl) ?_
  refine k_get (v := .ref nw) S G 0 rfl rfl hiX4 0 (by decide) hf7 rfl dX4_record_9 ?_
  refine lv_bipush (v := 15) hx hb dX4_record_12 (by decide) ?_
  refine lv_iload_n hx hb dX4_record_14 rfl (lv_at hl 0 rfl) ?_
  refine lv_iadd hx hb dX4_record_15 ?_
  refine lv_lit (v := 31) (by decide) ?_
  refine lv_aload_n hx hb dX4_record_16 rfl (lv_at hl 1 rfl) ?_
  refine k_get (v := .ref nw) S G 0 rfl rfl hiX4 0 (by decide) hf7 rfl dX4_record_17 ?_
  refine lv_bipush (v := 15) hx hb dX4_record_20 (by decide) ?_
  refine lv_iload_n hx hb dX4_record_22 rfl (lv_at hl 0 rfl) ?_
  refine lv_iadd hx hb dX4_record_23 ?_
  refine lv_lit (v := 31) (by decide) ?_
  refine lv_iconst (v := 4) hx hb dX4_record_24 (by decide) ?_
  refine lv_isub hx hb dX4_record_25 ?_
  refine lv_lit (v := 27) (by decide) ?_
  refine k_iald (x := (f 27)) S G 1 0 rfl rfl (by unfold vp_in; decide) rfl dX4_record_26 ?_
  refine k_iast (ws1 := [(y, .inr (4, [.ref nw, .ref ad, .ref pa, .int sn, .ref eA, .long hs])), (nw, .inl (cI, 39, .inl (upd (upd (upd (upd (upd (upd (upd (upd f 38 (f 34)) 37 (f 33)) 36 (f 32)) 35 (f 31)) 34 (f 30)) 33 (f 29)) 32 (f 28)) 31 (f 27)))), (ad, .inl (cI, 39, .inl g)), (pa, .inl (cI, 195, .inl pf)), (eA, .inl (cI, 3, .inl z))]) S G 1 0 rfl rfl (by unfold vp_in; decide) dX4_record_27 rfl (fun H locs G => ?_)
  refine lv_iinc (v := 15) (lv' := [(3, .int 15), (0, .ref y), (1, .int tr), (2, .int bl)]) hx hb dX4_record_28 hl (k := 0) rfl (by decide) (by decide) rfl (fun ls hl => ?_)
  refine lv_goto (tgt := 3) hx hb dX4_record_31 (by decide) ?_
  refine lv_iload_n hx hb dX4_record_3 rfl (lv_at hl 0 rfl) ?_
  refine lv_iconst (v := 4) hx hb dX4_record_4 (by decide) ?_
  refine lv_icmp_lt (tgt := 34) hx hb dX4_record_5 (by decide) (fun c_9 => absurd c_9 (by decide)) (fun c_9 => ?_)
  refine lv_aload_n hx hb dX4_record_8 rfl (lv_at hl 1 rfl) ?_
  refine k_get (v := .ref nw) S G 0 rfl rfl hiX4 0 (by decide) hf7 rfl dX4_record_9 ?_
  refine lv_bipush (v := 15) hx hb dX4_record_12 (by decide) ?_
  refine lv_iload_n hx hb dX4_record_14 rfl (lv_at hl 0 rfl) ?_
  refine lv_iadd hx hb dX4_record_15 ?_
  refine lv_lit (v := 30) (by decide) ?_
  refine lv_aload_n hx hb dX4_record_16 rfl (lv_at hl 1 rfl) ?_
  refine k_get (v := .ref nw) S G 0 rfl rfl hiX4 0 (by decide) hf7 rfl dX4_record_17 ?_
  refine lv_bipush (v := 15) hx hb dX4_record_20 (by decide) ?_
  refine lv_iload_n hx hb dX4_record_22 rfl (lv_at hl 0 rfl) ?_
  refine lv_iadd hx hb dX4_record_23 ?_
  refine lv_lit (v := 30) (by decide) ?_
  refine lv_iconst (v := 4) hx hb dX4_record_24 (by decide) ?_
  refine lv_isub hx hb dX4_record_25 ?_
  refine lv_lit (v := 26) (by decide) ?_
  refine k_iald (x := (f 26)) S G 1 0 rfl rfl (by unfold vp_in; decide) rfl dX4_record_26 ?_
  refine k_iast (ws1 := [(y, .inr (4, [.ref nw, .ref ad, .ref pa, .int sn, .ref eA, .long hs])), (nw, .inl (cI, 39, .inl (upd (upd (upd (upd (upd (upd (upd (upd (upd f 38 (f 34)) 37 (f 33)) 36 (f 32)) 35 (f 31)) 34 (f 30)) 33 (f 29)) 32 (f 28)) 31 (f 27)) 30 (f 26)))), (ad, .inl (cI, 39, .inl g)), (pa, .inl (cI, 195, .inl pf)), (eA, .inl (cI, 3, .inl z))]) S G 1 0 rfl rfl (by unfold vp_in; decide) dX4_record_27 rfl (fun H locs G => ?_)
  refine lv_iinc (v := 14) (lv' := [(3, .int 14), (0, .ref y), (1, .int tr), (2, .int bl)]) hx hb dX4_record_28 hl (k := 0) rfl (by decide) (by decide) rfl (fun ls hl => ?_)
  refine lv_goto (tgt := 3) hx hb dX4_record_31 (by decide) ?_
  refine lv_iload_n hx hb dX4_record_3 rfl (lv_at hl 0 rfl) ?_
  refine lv_iconst (v := 4) hx hb dX4_record_4 (by decide) ?_
  refine lv_icmp_lt (tgt := 34) hx hb dX4_record_5 (by decide) (fun c_10 => absurd c_10 (by decide)) (fun c_10 => ?_)
  refine lv_aload_n hx hb dX4_record_8 rfl (lv_at hl 1 rfl) ?_
  refine k_get (v := .ref nw) S G 0 rfl rfl hiX4 0 (by decide) hf7 rfl dX4_record_9 ?_
  refine lv_bipush (v := 15) hx hb dX4_record_12 (by decide) ?_
  refine lv_iload_n hx hb dX4_record_14 rfl (lv_at hl 0 rfl) ?_
  refine lv_iadd hx hb dX4_record_15 ?_
  refine lv_lit (v := 29) (by decide) ?_
  refine lv_aload_n hx hb dX4_record_16 rfl (lv_at hl 1 rfl) ?_
  refine k_get (v := .ref nw) S G 0 rfl rfl hiX4 0 (by decide) hf7 rfl dX4_record_17 ?_
  refine lv_bipush (v := 15) hx hb dX4_record_20 (by decide) ?_
  refine lv_iload_n hx hb dX4_record_22 rfl (lv_at hl 0 rfl) ?_
  refine lv_iadd hx hb dX4_record_23 ?_
  refine lv_lit (v := 29) (by decide) ?_
  refine lv_iconst (v := 4) hx hb dX4_record_24 (by decide) ?_
  refine lv_isub hx hb dX4_record_25 ?_
  refine lv_lit (v := 25) (by decide) ?_
  refine k_iald (x := (f 25)) S G 1 0 rfl rfl (by unfold vp_in; decide) rfl dX4_record_26 ?_
  refine k_iast (ws1 := [(y, .inr (4, [.ref nw, .ref ad, .ref pa, .int sn, .ref eA, .long hs])), (nw, .inl (cI, 39, .inl (upd (upd (upd (upd (upd (upd (upd (upd (upd (upd f 38 (f 34)) 37 (f 33)) 36 (f 32)) 35 (f 31)) 34 (f 30)) 33 (f 29)) 32 (f 28)) 31 (f 27)) 30 (f 26)) 29 (f 25)))), (ad, .inl (cI, 39, .inl g)), (pa, .inl (cI, 195, .inl pf)), (eA, .inl (cI, 3, .inl z))]) S G 1 0 rfl rfl (by unfold vp_in; decide) dX4_record_27 rfl (fun H locs G => ?_)
  refine lv_iinc (v := 13) (lv' := [(3, .int 13), (0, .ref y), (1, .int tr), (2, .int bl)]) hx hb dX4_record_28 hl (k := 0) rfl (by decide) (by decide) rfl (fun ls hl => ?_)
  refine lv_goto (tgt := 3) hx hb dX4_record_31 (by decide) ?_
  refine lv_iload_n hx hb dX4_record_3 rfl (lv_at hl 0 rfl) ?_
  refine lv_iconst (v := 4) hx hb dX4_record_4 (by decide) ?_
  refine lv_icmp_lt (tgt := 34) hx hb dX4_record_5 (by decide) (fun c_11 => absurd c_11 (by decide)) (fun c_11 => ?_)
  refine lv_aload_n hx hb dX4_record_8 rfl (lv_at hl 1 rfl) ?_
  refine k_get (v := .ref nw) S G 0 rfl rfl hiX4 0 (by decide) hf7 rfl dX4_record_9 ?_
  refine lv_bipush (v := 15) hx hb dX4_record_12 (by decide) ?_
  refine lv_iload_n hx hb dX4_record_14 rfl (lv_at hl 0 rfl) ?_
  refine lv_iadd hx hb dX4_record_15 ?_
  refine lv_lit (v := 28) (by decide) ?_
  refine lv_aload_n hx hb dX4_record_16 rfl (lv_at hl 1 rfl) ?_
  refine k_get (v := .ref nw) S G 0 rfl rfl hiX4 0 (by decide) hf7 rfl dX4_record_17 ?_
  refine lv_bipush (v := 15) hx hb dX4_record_20 (by decide) ?_
  refine lv_iload_n hx hb dX4_record_22 rfl (lv_at hl 0 rfl) ?_
  refine lv_iadd hx hb dX4_record_23 ?_
  refine lv_lit (v := 28) (by decide) ?_
  refine lv_iconst (v := 4) hx hb dX4_record_24 (by decide) ?_
  refine lv_isub hx hb dX4_record_25 ?_
  refine lv_lit (v := 24) (by decide) ?_
  refine k_iald (x := (f 24)) S G 1 0 rfl rfl (by unfold vp_in; decide) rfl dX4_record_26 ?_
  refine k_iast (ws1 := [(y, .inr (4, [.ref nw, .ref ad, .ref pa, .int sn, .ref eA, .long hs])), (nw, .inl (cI, 39, .inl (upd (upd (upd (upd (upd (upd (upd (upd (upd (upd (upd f 38 (f 34)) 37 (f 33)) 36 (f 32)) 35 (f 31)) 34 (f 30)) 33 (f 29)) 32 (f 28)) 31 (f 27)) 30 (f 26)) 29 (f 25)) 28 (f 24)))), (ad, .inl (cI, 39, .inl g)), (pa, .inl (cI, 195, .inl pf)), (eA, .inl (cI, 3, .inl z))]) S G 1 0 rfl rfl (by unfold vp_in; decide) dX4_record_27 rfl (fun H locs G => ?_)
  refine lv_iinc (v := 12) (lv' := [(3, .int 12), (0, .ref y), (1, .int tr), (2, .int bl)]) hx hb dX4_record_28 hl (k := 0) rfl (by decide) (by decide) rfl (fun ls hl => ?_)
  refine lv_goto (tgt := 3) hx hb dX4_record_31 (by decide) ?_
  refine lv_iload_n hx hb dX4_record_3 rfl (lv_at hl 0 rfl) ?_
  refine lv_iconst (v := 4) hx hb dX4_record_4 (by decide) ?_
  refine lv_icmp_lt (tgt := 34) hx hb dX4_record_5 (by decide) (fun c_12 => absurd c_12 (by decide)) (fun c_12 => ?_)
  refine lv_aload_n hx hb dX4_record_8 rfl (lv_at hl 1 rfl) ?_
  refine k_get (v := .ref nw) S G 0 rfl rfl hiX4 0 (by decide) hf7 rfl dX4_record_9 ?_
  refine lv_bipush (v := 15) hx hb dX4_record_12 (by decide) ?_
  refine lv_iload_n hx hb dX4_record_14 rfl (lv_at hl 0 rfl) ?_
  refine lv_iadd hx hb dX4_record_15 ?_
  refine lv_lit (v := 27) (by decide) ?_
  refine lv_aload_n hx hb dX4_record_16 rfl (lv_at hl 1 rfl) ?_
  refine k_get (v := .ref nw) S G 0 rfl rfl hiX4 0 (by decide) hf7 rfl dX4_record_17 ?_
  refine lv_bipush (v := 15) hx hb dX4_record_20 (by decide) ?_
  refine lv_iload_n hx hb dX4_record_22 rfl (lv_at hl 0 rfl) ?_
  refine lv_iadd hx hb dX4_record_23 ?_
  refine lv_lit (v := 27) (by decide) ?_
  refine lv_iconst (v := 4) hx hb dX4_record_24 (by decide) ?_
  refine lv_isub hx hb dX4_record_25 ?_
  refine lv_lit (v := 23) (by decide) ?_
  refine k_iald (x := (f 23)) S G 1 0 rfl rfl (by unfold vp_in; decide) rfl dX4_record_26 ?_
  refine k_iast (ws1 := [(y, .inr (4, [.ref nw, .ref ad, .ref pa, .int sn, .ref eA, .long hs])), (nw, .inl (cI, 39, .inl (upd (upd (upd (upd (upd (upd (upd (upd (upd (upd (upd (upd f 38 (f 34)) 37 (f 33)) 36 (f 32)) 35 (f 31)) 34 (f 30)) 33 (f 29)) 32 (f 28)) 31 (f 27)) 30 (f 26)) 29 (f 25)) 28 (f 24)) 27 (f 23)))), (ad, .inl (cI, 39, .inl g)), (pa, .inl (cI, 195, .inl pf)), (eA, .inl (cI, 3, .inl z))]) S G 1 0 rfl rfl (by unfold vp_in; decide) dX4_record_27 rfl (fun H locs G => ?_)
  refine lv_iinc (v := 11) (lv' := [(3, .int 11), (0, .ref y), (1, .int tr), (2, .int bl)]) hx hb dX4_record_28 hl (k := 0) rfl (by decide) (by decide) rfl (fun ls hl => ?_)
  refine lv_goto (tgt := 3) hx hb dX4_record_31 (by decide) ?_
  refine lv_iload_n hx hb dX4_record_3 rfl (lv_at hl 0 rfl) ?_
  refine lv_iconst (v := 4) hx hb dX4_record_4 (by decide) ?_
  refine lv_icmp_lt (tgt := 34) hx hb dX4_record_5 (by decide) (fun c_13 => absurd c_13 (by decide)) (fun c_13 => ?_)
  refine lv_aload_n hx hb dX4_record_8 rfl (lv_at hl 1 rfl) ?_
  refine k_get (v := .ref nw) S G 0 rfl rfl hiX4 0 (by decide) hf7 rfl dX4_record_9 ?_
  refine lv_bipush (v := 15) hx hb dX4_record_12 (by decide) ?_
  refine lv_iload_n hx hb dX4_record_14 rfl (lv_at hl 0 rfl) ?_
  refine lv_iadd hx hb dX4_record_15 ?_
  refine lv_lit (v := 26) (by decide) ?_
  refine lv_aload_n hx hb dX4_record_16 rfl (lv_at hl 1 rfl) ?_
  refine k_get (v := .ref nw) S G 0 rfl rfl hiX4 0 (by decide) hf7 rfl dX4_record_17 ?_
  refine lv_bipush (v := 15) hx hb dX4_record_20 (by decide) ?_
  refine lv_iload_n hx hb dX4_record_22 rfl (lv_at hl 0 rfl) ?_
  refine lv_iadd hx hb dX4_record_23 ?_
  refine lv_lit (v := 26) (by decide) ?_
  refine lv_iconst (v := 4) hx hb dX4_record_24 (by decide) ?_
  refine lv_isub hx hb dX4_record_25 ?_
  refine lv_lit (v := 22) (by decide) ?_
  refine k_iald (x := (f 22)) S G 1 0 rfl rfl (by unfold vp_in; decide) rfl dX4_record_26 ?_
  refine k_iast (ws1 := [(y, .inr (4, [.ref nw, .ref ad, .ref pa, .int sn, .ref eA, .long hs])), (nw, .inl (cI, 39, .inl (upd (upd (upd (upd (upd (upd (upd (upd (upd (upd (upd (upd (upd f 38 (f 34)) 37 (f 33)) 36 (f 32)) 35 (f 31)) 34 (f 30)) 33 (f 29)) 32 (f 28)) 31 (f 27)) 30 (f 26)) 29 (f 25)) 28 (f 24)) 27 (f 23)) 26 (f 22)))), (ad, .inl (cI, 39, .inl g)), (pa, .inl (cI, 195, .inl pf)), (eA, .inl (cI, 3, .inl z))]) S G 1 0 rfl rfl (by unfold vp_in; decide) dX4_record_27 rfl (fun H locs G => ?_)
  refine lv_iinc (v := 10) (lv' := [(3, .int 10), (0, .ref y), (1, .int tr), (2, .int bl)]) hx hb dX4_record_28 hl (k := 0) rfl (by decide) (by decide) rfl (fun ls hl => ?_)
  refine lv_goto (tgt := 3) hx hb dX4_record_31 (by decide) ?_
  refine lv_iload_n hx hb dX4_record_3 rfl (lv_at hl 0 rfl) ?_
  refine lv_iconst (v := 4) hx hb dX4_record_4 (by decide) ?_
  refine lv_icmp_lt (tgt := 34) hx hb dX4_record_5 (by decide) (fun c_14 => absurd c_14 (by decide)) (fun c_14 => ?_)
  refine lv_aload_n hx hb dX4_record_8 rfl (lv_at hl 1 rfl) ?_
  refine k_get (v := .ref nw) S G 0 rfl rfl hiX4 0 (by decide) hf7 rfl dX4_record_9 ?_
  refine lv_bipush (v := 15) hx hb dX4_record_12 (by decide) ?_
  refine lv_iload_n hx hb dX4_record_14 rfl (lv_at hl 0 rfl) ?_
  refine lv_iadd hx hb dX4_record_15 ?_
  refine lv_lit (v := 25) (by decide) ?_
  refine lv_aload_n hx hb dX4_record_16 rfl (lv_at hl 1 rfl) ?_
  refine k_get (v := .ref nw) S G 0 rfl rfl hiX4 0 (by decide) hf7 rfl dX4_record_17 ?_
  refine lv_bipush (v := 15) hx hb dX4_record_20 (by decide) ?_
  refine lv_iload_n hx hb dX4_record_22 rfl (lv_at hl 0 rfl) ?_
  refine lv_iadd hx hb dX4_record_23 ?_
  refine lv_lit (v := 25) (by decide) ?_
  refine lv_iconst (v := 4) hx hb dX4_record_24 (by decide) ?_
  refine lv_isub hx hb dX4_record_25 ?_
  refine lv_lit (v := 21) (by decide) ?_
  refine k_iald (x := (f 21)) S G 1 0 rfl rfl (by unfold vp_in; decide) rfl dX4_record_26 ?_
  refine k_iast (ws1 := [(y, .inr (4, [.ref nw, .ref ad, .ref pa, .int sn, .ref eA, .long hs])), (nw, .inl (cI, 39, .inl (upd (upd (upd (upd (upd (upd (upd (upd (upd (upd (upd (upd (upd (upd f 38 (f 34)) 37 (f 33)) 36 (f 32)) 35 (f 31)) 34 (f 30)) 33 (f 29)) 32 (f 28)) 31 (f 27)) 30 (f 26)) 29 (f 25)) 28 (f 24)) 27 (f 23)) 26 (f 22)) 25 (f 21)))), (ad, .inl (cI, 39, .inl g)), (pa, .inl (cI, 195, .inl pf)), (eA, .inl (cI, 3, .inl z))]) S G 1 0 rfl rfl (by unfold vp_in; decide) dX4_record_27 rfl (fun H locs G => ?_)
  refine lv_iinc (v := 9) (lv' := [(3, .int 9), (0, .ref y), (1, .int tr), (2, .int bl)]) hx hb dX4_record_28 hl (k := 0) rfl (by decide) (by decide) rfl (fun ls hl => ?_)
  refine lv_goto (tgt := 3) hx hb dX4_record_31 (by decide) ?_
  refine lv_iload_n hx hb dX4_record_3 rfl (lv_at hl 0 rfl) ?_
  refine lv_iconst (v := 4) hx hb dX4_record_4 (by decide) ?_
  refine lv_icmp_lt (tgt := 34) hx hb dX4_record_5 (by decide) (fun c_15 => absurd c_15 (by decide)) (fun c_15 => ?_)
  refine lv_aload_n hx hb dX4_record_8 rfl (lv_at hl 1 rfl) ?_
  refine k_get (v := .ref nw) S G 0 rfl rfl hiX4 0 (by decide) hf7 rfl dX4_record_9 ?_
  refine lv_bipush (v := 15) hx hb dX4_record_12 (by decide) ?_
  refine lv_iload_n hx hb dX4_record_14 rfl (lv_at hl 0 rfl) ?_
  refine lv_iadd hx hb dX4_record_15 ?_
  refine lv_lit (v := 24) (by decide) ?_
  refine lv_aload_n hx hb dX4_record_16 rfl (lv_at hl 1 rfl) ?_
  refine k_get (v := .ref nw) S G 0 rfl rfl hiX4 0 (by decide) hf7 rfl dX4_record_17 ?_
  refine lv_bipush (v := 15) hx hb dX4_record_20 (by decide) ?_
  refine lv_iload_n hx hb dX4_record_22 rfl (lv_at hl 0 rfl) ?_
  refine lv_iadd hx hb dX4_record_23 ?_
  refine lv_lit (v := 24) (by decide) ?_
  refine lv_iconst (v := 4) hx hb dX4_record_24 (by decide) ?_
  refine lv_isub hx hb dX4_record_25 ?_
  refine lv_lit (v := 20) (by decide) ?_
  refine k_iald (x := (f 20)) S G 1 0 rfl rfl (by unfold vp_in; decide) rfl dX4_record_26 ?_
  refine k_iast (ws1 := [(y, .inr (4, [.ref nw, .ref ad, .ref pa, .int sn, .ref eA, .long hs])), (nw, .inl (cI, 39, .inl (upd (upd (upd (upd (upd (upd (upd (upd (upd (upd (upd (upd (upd (upd (upd f 38 (f 34)) 37 (f 33)) 36 (f 32)) 35 (f 31)) 34 (f 30)) 33 (f 29)) 32 (f 28)) 31 (f 27)) 30 (f 26)) 29 (f 25)) 28 (f 24)) 27 (f 23)) 26 (f 22)) 25 (f 21)) 24 (f 20)))), (ad, .inl (cI, 39, .inl g)), (pa, .inl (cI, 195, .inl pf)), (eA, .inl (cI, 3, .inl z))]) S G 1 0 rfl rfl (by unfold vp_in; decide) dX4_record_27 rfl (fun H locs G => ?_)
  refine lv_iinc (v := 8) (lv' := [(3, .int 8), (0, .ref y), (1, .int tr), (2, .int bl)]) hx hb dX4_record_28 hl (k := 0) rfl (by decide) (by decide) rfl (fun ls hl => ?_)
  refine lv_goto (tgt := 3) hx hb dX4_record_31 (by decide) ?_
  refine lv_iload_n hx hb dX4_record_3 rfl (lv_at hl 0 rfl) ?_
  refine lv_iconst (v := 4) hx hb dX4_record_4 (by decide) ?_
  refine lv_icmp_lt (tgt := 34) hx hb dX4_record_5 (by decide) (fun c_16 => absurd c_16 (by decide)) (fun c_16 => ?_)
  refine lv_aload_n hx hb dX4_record_8 rfl (lv_at hl 1 rfl) ?_
  refine k_get (v := .ref nw) S G 0 rfl rfl hiX4 0 (by decide) hf7 rfl dX4_record_9 ?_
  refine lv_bipush (v := 15) hx hb dX4_record_12 (by decide) ?_
  refine lv_iload_n hx hb dX4_record_14 rfl (lv_at hl 0 rfl) ?_
  refine lv_iadd hx hb dX4_record_15 ?_
  refine lv_lit (v := 23) (by decide) ?_
  refine lv_aload_n hx hb dX4_record_16 rfl (lv_at hl 1 rfl) ?_
  refine k_get (v := .ref nw) S G 0 rfl rfl hiX4 0 (by decide) hf7 rfl dX4_record_17 ?_
  refine lv_bipush (v := 15) hx hb dX4_record_20 (by decide) ?_
  refine lv_iload_n hx hb dX4_record_22 rfl (lv_at hl 0 rfl) ?_
  refine lv_iadd hx hb dX4_record_23 ?_
  refine lv_lit (v := 23) (by decide) ?_
  refine lv_iconst (v := 4) hx hb dX4_record_24 (by decide) ?_
  refine lv_isub hx hb dX4_record_25 ?_
  refine lv_lit (v := 19) (by decide) ?_
  refine k_iald (x := (f 19)) S G 1 0 rfl rfl (by unfold vp_in; decide) rfl dX4_record_26 ?_
  refine k_iast (ws1 := [(y, .inr (4, [.ref nw, .ref ad, .ref pa, .int sn, .ref eA, .long hs])), (nw, .inl (cI, 39, .inl (upd (upd (upd (upd (upd (upd (upd (upd (upd (upd (upd (upd (upd (upd (upd (upd f 38 (f 34)) 37 (f 33)) 36 (f 32)) 35 (f 31)) 34 (f 30)) 33 (f 29)) 32 (f 28)) 31 (f 27)) 30 (f 26)) 29 (f 25)) 28 (f 24)) 27 (f 23)) 26 (f 22)) 25 (f 21)) 24 (f 20)) 23 (f 19)))), (ad, .inl (cI, 39, .inl g)), (pa, .inl (cI, 195, .inl pf)), (eA, .inl (cI, 3, .inl z))]) S G 1 0 rfl rfl (by unfold vp_in; decide) dX4_record_27 rfl (fun H locs G => ?_)
  refine lv_iinc (v := 7) (lv' := [(3, .int 7), (0, .ref y), (1, .int tr), (2, .int bl)]) hx hb dX4_record_28 hl (k := 0) rfl (by decide) (by decide) rfl (fun ls hl => ?_)
  refine lv_goto (tgt := 3) hx hb dX4_record_31 (by decide) ?_
  refine lv_iload_n hx hb dX4_record_3 rfl (lv_at hl 0 rfl) ?_
  refine lv_iconst (v := 4) hx hb dX4_record_4 (by decide) ?_
  refine lv_icmp_lt (tgt := 34) hx hb dX4_record_5 (by decide) (fun c_17 => absurd c_17 (by decide)) (fun c_17 => ?_)
  refine lv_aload_n hx hb dX4_record_8 rfl (lv_at hl 1 rfl) ?_
  refine k_get (v := .ref nw) S G 0 rfl rfl hiX4 0 (by decide) hf7 rfl dX4_record_9 ?_
  refine lv_bipush (v := 15) hx hb dX4_record_12 (by decide) ?_
  refine lv_iload_n hx hb dX4_record_14 rfl (lv_at hl 0 rfl) ?_
  refine lv_iadd hx hb dX4_record_15 ?_
  refine lv_lit (v := 22) (by decide) ?_
  refine lv_aload_n hx hb dX4_record_16 rfl (lv_at hl 1 rfl) ?_
  refine k_get (v := .ref nw) S G 0 rfl rfl hiX4 0 (by decide) hf7 rfl dX4_record_17 ?_
  refine lv_bipush (v := 15) hx hb dX4_record_20 (by decide) ?_
  refine lv_iload_n hx hb dX4_record_22 rfl (lv_at hl 0 rfl) ?_
  refine lv_iadd hx hb dX4_record_23 ?_
  refine lv_lit (v := 22) (by decide) ?_
  refine lv_iconst (v := 4) hx hb dX4_record_24 (by decide) ?_
  refine lv_isub hx hb dX4_record_25 ?_
  refine lv_lit (v := 18) (by decide) ?_
  refine k_iald (x := (f 18)) S G 1 0 rfl rfl (by unfold vp_in; decide) rfl dX4_record_26 ?_
  refine k_iast (ws1 := [(y, .inr (4, [.ref nw, .ref ad, .ref pa, .int sn, .ref eA, .long hs])), (nw, .inl (cI, 39, .inl (upd (upd (upd (upd (upd (upd (upd (upd (upd (upd (upd (upd (upd (upd (upd (upd (upd f 38 (f 34)) 37 (f 33)) 36 (f 32)) 35 (f 31)) 34 (f 30)) 33 (f 29)) 32 (f 28)) 31 (f 27)) 30 (f 26)) 29 (f 25)) 28 (f 24)) 27 (f 23)) 26 (f 22)) 25 (f 21)) 24 (f 20)) 23 (f 19)) 22 (f 18)))), (ad, .inl (cI, 39, .inl g)), (pa, .inl (cI, 195, .inl pf)), (eA, .inl (cI, 3, .inl z))]) S G 1 0 rfl rfl (by unfold vp_in; decide) dX4_record_27 rfl (fun H locs G => ?_)
  refine lv_iinc (v := 6) (lv' := [(3, .int 6), (0, .ref y), (1, .int tr), (2, .int bl)]) hx hb dX4_record_28 hl (k := 0) rfl (by decide) (by decide) rfl (fun ls hl => ?_)
  refine lv_goto (tgt := 3) hx hb dX4_record_31 (by decide) ?_
  refine lv_iload_n hx hb dX4_record_3 rfl (lv_at hl 0 rfl) ?_
  refine lv_iconst (v := 4) hx hb dX4_record_4 (by decide) ?_
  refine lv_icmp_lt (tgt := 34) hx hb dX4_record_5 (by decide) (fun c_18 => absurd c_18 (by decide)) (fun c_18 => ?_)
  refine lv_aload_n hx hb dX4_record_8 rfl (lv_at hl 1 rfl) ?_
  refine k_get (v := .ref nw) S G 0 rfl rfl hiX4 0 (by decide) hf7 rfl dX4_record_9 ?_
  refine lv_bipush (v := 15) hx hb dX4_record_12 (by decide) ?_
  refine lv_iload_n hx hb dX4_record_14 rfl (lv_at hl 0 rfl) ?_
  refine lv_iadd hx hb dX4_record_15 ?_
  refine lv_lit (v := 21) (by decide) ?_
  refine lv_aload_n hx hb dX4_record_16 rfl (lv_at hl 1 rfl) ?_
  refine k_get (v := .ref nw) S G 0 rfl rfl hiX4 0 (by decide) hf7 rfl dX4_record_17 ?_
  refine lv_bipush (v := 15) hx hb dX4_record_20 (by decide) ?_
  refine lv_iload_n hx hb dX4_record_22 rfl (lv_at hl 0 rfl) ?_
  refine lv_iadd hx hb dX4_record_23 ?_
  refine lv_lit (v := 21) (by decide) ?_
  refine lv_iconst (v := 4) hx hb dX4_record_24 (by decide) ?_
  refine lv_isub hx hb dX4_record_25 ?_
  refine lv_lit (v := 17) (by decide) ?_
  refine k_iald (x := (f 17)) S G 1 0 rfl rfl (by unfold vp_in; decide) rfl dX4_record_26 ?_
  refine k_iast (ws1 := [(y, .inr (4, [.ref nw, .ref ad, .ref pa, .int sn, .ref eA, .long hs])), (nw, .inl (cI, 39, .inl (upd (upd (upd (upd (upd (upd (upd (upd (upd (upd (upd (upd (upd (upd (upd (upd (upd (upd f 38 (f 34)) 37 (f 33)) 36 (f 32)) 35 (f 31)) 34 (f 30)) 33 (f 29)) 32 (f 28)) 31 (f 27)) 30 (f 26)) 29 (f 25)) 28 (f 24)) 27 (f 23)) 26 (f 22)) 25 (f 21)) 24 (f 20)) 23 (f 19)) 22 (f 18)) 21 (f 17)))), (ad, .inl (cI, 39, .inl g)), (pa, .inl (cI, 195, .inl pf)), (eA, .inl (cI, 3, .inl z))]) S G 1 0 rfl rfl (by unfold vp_in; decide) dX4_record_27 rfl (fun H locs G => ?_)
  refine lv_iinc (v := 5) (lv' := [(3, .int 5), (0, .ref y), (1, .int tr), (2, .int bl)]) hx hb dX4_record_28 hl (k := 0) rfl (by decide) (by decide) rfl (fun ls hl => ?_)
  refine lv_goto (tgt := 3) hx hb dX4_record_31 (by decide) ?_
  refine lv_iload_n hx hb dX4_record_3 rfl (lv_at hl 0 rfl) ?_
  refine lv_iconst (v := 4) hx hb dX4_record_4 (by decide) ?_
  refine lv_icmp_lt (tgt := 34) hx hb dX4_record_5 (by decide) (fun c_19 => absurd c_19 (by decide)) (fun c_19 => ?_)
  refine lv_aload_n hx hb dX4_record_8 rfl (lv_at hl 1 rfl) ?_
  refine k_get (v := .ref nw) S G 0 rfl rfl hiX4 0 (by decide) hf7 rfl dX4_record_9 ?_
  refine lv_bipush (v := 15) hx hb dX4_record_12 (by decide) ?_
  refine lv_iload_n hx hb dX4_record_14 rfl (lv_at hl 0 rfl) ?_
  refine lv_iadd hx hb dX4_record_15 ?_
  refine lv_lit (v := 20) (by decide) ?_
  refine lv_aload_n hx hb dX4_record_16 rfl (lv_at hl 1 rfl) ?_
  refine k_get (v := .ref nw) S G 0 rfl rfl hiX4 0 (by decide) hf7 rfl dX4_record_17 ?_
  refine lv_bipush (v := 15) hx hb dX4_record_20 (by decide) ?_
  refine lv_iload_n hx hb dX4_record_22 rfl (lv_at hl 0 rfl) ?_
  refine lv_iadd hx hb dX4_record_23 ?_
  refine lv_lit (v := 20) (by decide) ?_
  refine lv_iconst (v := 4) hx hb dX4_record_24 (by decide) ?_
  refine lv_isub hx hb dX4_record_25 ?_
  refine lv_lit (v := 16) (by decide) ?_
  refine k_iald (x := (f 16)) S G 1 0 rfl rfl (by unfold vp_in; decide) rfl dX4_record_26 ?_
  refine k_iast (ws1 := [(y, .inr (4, [.ref nw, .ref ad, .ref pa, .int sn, .ref eA, .long hs])), (nw, .inl (cI, 39, .inl (upd (upd (upd (upd (upd (upd (upd (upd (upd (upd (upd (upd (upd (upd (upd (upd (upd (upd (upd f 38 (f 34)) 37 (f 33)) 36 (f 32)) 35 (f 31)) 34 (f 30)) 33 (f 29)) 32 (f 28)) 31 (f 27)) 30 (f 26)) 29 (f 25)) 28 (f 24)) 27 (f 23)) 26 (f 22)) 25 (f 21)) 24 (f 20)) 23 (f 19)) 22 (f 18)) 21 (f 17)) 20 (f 16)))), (ad, .inl (cI, 39, .inl g)), (pa, .inl (cI, 195, .inl pf)), (eA, .inl (cI, 3, .inl z))]) S G 1 0 rfl rfl (by unfold vp_in; decide) dX4_record_27 rfl (fun H locs G => ?_)
  refine lv_iinc (v := 4) (lv' := [(3, .int 4), (0, .ref y), (1, .int tr), (2, .int bl)]) hx hb dX4_record_28 hl (k := 0) rfl (by decide) (by decide) rfl (fun ls hl => ?_)
  refine lv_goto (tgt := 3) hx hb dX4_record_31 (by decide) ?_
  refine lv_iload_n hx hb dX4_record_3 rfl (lv_at hl 0 rfl) ?_
  refine lv_iconst (v := 4) hx hb dX4_record_4 (by decide) ?_
  refine lv_icmp_lt (tgt := 34) hx hb dX4_record_5 (by decide) (fun c_20 => absurd c_20 (by decide)) (fun c_20 => ?_)
  refine lv_aload_n hx hb dX4_record_8 rfl (lv_at hl 1 rfl) ?_
  refine k_get (v := .ref nw) S G 0 rfl rfl hiX4 0 (by decide) hf7 rfl dX4_record_9 ?_
  refine lv_bipush (v := 15) hx hb dX4_record_12 (by decide) ?_
  refine lv_iload_n hx hb dX4_record_14 rfl (lv_at hl 0 rfl) ?_
  refine lv_iadd hx hb dX4_record_15 ?_
  refine lv_lit (v := 19) (by decide) ?_
  refine lv_aload_n hx hb dX4_record_16 rfl (lv_at hl 1 rfl) ?_
  refine k_get (v := .ref nw) S G 0 rfl rfl hiX4 0 (by decide) hf7 rfl dX4_record_17 ?_
  refine lv_bipush (v := 15) hx hb dX4_record_20 (by decide) ?_
  refine lv_iload_n hx hb dX4_record_22 rfl (lv_at hl 0 rfl) ?_
  refine lv_iadd hx hb dX4_record_23 ?_
  refine lv_lit (v := 19) (by decide) ?_
  refine lv_iconst (v := 4) hx hb dX4_record_24 (by decide) ?_
  refine lv_isub hx hb dX4_record_25 ?_
  refine lv_lit (v := 15) (by decide) ?_
  refine k_iald (x := (f 15)) S G 1 0 rfl rfl (by unfold vp_in; decide) rfl dX4_record_26 ?_
  refine k_iast (ws1 := [(y, .inr (4, [.ref nw, .ref ad, .ref pa, .int sn, .ref eA, .long hs])), (nw, .inl (cI, 39, .inl (upd (upd (upd (upd (upd (upd (upd (upd (upd (upd (upd (upd (upd (upd (upd (upd (upd (upd (upd (upd f 38 (f 34)) 37 (f 33)) 36 (f 32)) 35 (f 31)) 34 (f 30)) 33 (f 29)) 32 (f 28)) 31 (f 27)) 30 (f 26)) 29 (f 25)) 28 (f 24)) 27 (f 23)) 26 (f 22)) 25 (f 21)) 24 (f 20)) 23 (f 19)) 22 (f 18)) 21 (f 17)) 20 (f 16)) 19 (f 15)))), (ad, .inl (cI, 39, .inl g)), (pa, .inl (cI, 195, .inl pf)), (eA, .inl (cI, 3, .inl z))]) S G 1 0 rfl rfl (by unfold vp_in; decide) dX4_record_27 rfl (fun H locs G => ?_)
  refine lv_iinc (v := 3) (lv' := [(3, .int 3), (0, .ref y), (1, .int tr), (2, .int bl)]) hx hb dX4_record_28 hl (k := 0) rfl (by decide) (by decide) rfl (fun ls hl => ?_)
  refine lv_goto (tgt := 3) hx hb dX4_record_31 (by decide) ?_
  refine lv_iload_n hx hb dX4_record_3 rfl (lv_at hl 0 rfl) ?_
  refine lv_iconst (v := 4) hx hb dX4_record_4 (by decide) ?_
  refine lv_icmp_lt (tgt := 34) hx hb dX4_record_5 (by decide) (fun c_21 => ?_) (fun c_21 => absurd c_21 (by decide))
  refine lv_aload_n hx hb dX4_record_34 rfl (lv_at hl 1 rfl) ?_
  refine k_get (v := .ref nw) S G 0 rfl rfl hiX4 0 (by decide) hf7 rfl dX4_record_35 ?_
  refine lv_bipush (v := 15) hx hb dX4_record_38 (by decide) ?_
  refine lv_aload_n hx hb dX4_record_40 rfl (lv_at hl 1 rfl) ?_
  refine k_get (v := .ref nw) S G 0 rfl rfl hiX4 0 (by decide) hf7 rfl dX4_record_41 ?_
  refine lv_iconst (v := 0) hx hb dX4_record_44 (by decide) ?_
  refine k_iald (x := (f 0)) S G 1 0 rfl rfl (by unfold vp_in; decide) rfl dX4_record_45 ?_
  refine k_iast (ws1 := [(y, .inr (4, [.ref nw, .ref ad, .ref pa, .int sn, .ref eA, .long hs])), (nw, .inl (cI, 39, .inl (upd (upd (upd (upd (upd (upd (upd (upd (upd (upd (upd (upd (upd (upd (upd (upd (upd (upd (upd (upd (upd f 38 (f 34)) 37 (f 33)) 36 (f 32)) 35 (f 31)) 34 (f 30)) 33 (f 29)) 32 (f 28)) 31 (f 27)) 30 (f 26)) 29 (f 25)) 28 (f 24)) 27 (f 23)) 26 (f 22)) 25 (f 21)) 24 (f 20)) 23 (f 19)) 22 (f 18)) 21 (f 17)) 20 (f 16)) 19 (f 15)) 15 (f 0)))), (ad, .inl (cI, 39, .inl g)), (pa, .inl (cI, 195, .inl pf)), (eA, .inl (cI, 3, .inl z))]) S G 1 0 rfl rfl (by unfold vp_in; decide) dX4_record_46 rfl (fun H locs G => ?_)
  refine lv_aload_n hx hb dX4_record_47 rfl (lv_at hl 1 rfl) ?_
  refine k_get (v := .ref nw) S G 0 rfl rfl hiX4 0 (by decide) hf7 rfl dX4_record_48 ?_
  refine lv_bipush (v := 16) hx hb dX4_record_51 (by decide) ?_
  refine lv_iload_n hx hb dX4_record_53 rfl (lv_at hl 2 rfl) ?_
  refine k_iast (ws1 := [(y, .inr (4, [.ref nw, .ref ad, .ref pa, .int sn, .ref eA, .long hs])), (nw, .inl (cI, 39, .inl (upd (upd (upd (upd (upd (upd (upd (upd (upd (upd (upd (upd (upd (upd (upd (upd (upd (upd (upd (upd (upd (upd f 38 (f 34)) 37 (f 33)) 36 (f 32)) 35 (f 31)) 34 (f 30)) 33 (f 29)) 32 (f 28)) 31 (f 27)) 30 (f 26)) 29 (f 25)) 28 (f 24)) 27 (f 23)) 26 (f 22)) 25 (f 21)) 24 (f 20)) 23 (f 19)) 22 (f 18)) 21 (f 17)) 20 (f 16)) 19 (f 15)) 15 (f 0)) 16 tr))), (ad, .inl (cI, 39, .inl g)), (pa, .inl (cI, 195, .inl pf)), (eA, .inl (cI, 3, .inl z))]) S G 1 0 rfl rfl (by unfold vp_in; decide) dX4_record_54 rfl (fun H locs G => ?_)
  refine lv_aload_n hx hb dX4_record_55 rfl (lv_at hl 1 rfl) ?_
  refine k_get (v := .ref nw) S G 0 rfl rfl hiX4 0 (by decide) hf7 rfl dX4_record_56 ?_
  refine lv_bipush (v := 17) hx hb dX4_record_59 (by decide) ?_
  refine lv_iload_n hx hb dX4_record_61 rfl (lv_at hl 3 rfl) ?_
  refine k_iast (ws1 := [(y, .inr (4, [.ref nw, .ref ad, .ref pa, .int sn, .ref eA, .long hs])), (nw, .inl (cI, 39, .inl (upd (upd (upd (upd (upd (upd (upd (upd (upd (upd (upd (upd (upd (upd (upd (upd (upd (upd (upd (upd (upd (upd (upd f 38 (f 34)) 37 (f 33)) 36 (f 32)) 35 (f 31)) 34 (f 30)) 33 (f 29)) 32 (f 28)) 31 (f 27)) 30 (f 26)) 29 (f 25)) 28 (f 24)) 27 (f 23)) 26 (f 22)) 25 (f 21)) 24 (f 20)) 23 (f 19)) 22 (f 18)) 21 (f 17)) 20 (f 16)) 19 (f 15)) 15 (f 0)) 16 tr) 17 bl))), (ad, .inl (cI, 39, .inl g)), (pa, .inl (cI, 195, .inl pf)), (eA, .inl (cI, 3, .inl z))]) S G 1 0 rfl rfl (by unfold vp_in; decide) dX4_record_62 rfl (fun H locs G => ?_)
  refine lv_aload_n hx hb dX4_record_63 rfl (lv_at hl 1 rfl) ?_
  refine k_get (v := .ref nw) S G 0 rfl rfl hiX4 0 (by decide) hf7 rfl dX4_record_64 ?_
  refine lv_bipush (v := 14) hx hb dX4_record_67 (by decide) ?_
  refine lv_dup2_11 hx hb dX4_record_69 rfl rfl ?_
  refine k_iald (x := (f 14)) S G 1 0 rfl rfl (by unfold vp_in; decide) rfl dX4_record_70 ?_
  refine lv_aload_n hx hb dX4_record_71 rfl (lv_at hl 1 rfl) ?_
  refine k_get (v := .ref nw) S G 0 rfl rfl hiX4 0 (by decide) hf7 rfl dX4_record_72 ?_
  refine lv_bipush (v := 14) hx hb dX4_record_75 (by decide) ?_
  refine k_iald (x := (f 14)) S G 1 0 rfl rfl (by unfold vp_in; decide) rfl dX4_record_77 ?_
  refine lv_bipush (v := 6) hx hb dX4_record_78 (by decide) ?_
  refine lv_icmp_ge (tgt := 87) hx hb dX4_record_80 (by decide) (fun c_22 => ?_) (fun c_22 => ?_)
  · skip
    refine lv_iconst (v := 0) hx hb dX4_record_87 (by decide) ?_
    refine lv_iadd hx hb dX4_record_88 ?_
    refine k_iast (ws1 := [(y, .inr (4, [.ref nw, .ref ad, .ref pa, .int sn, .ref eA, .long hs])), (nw, .inl (cI, 39, .inl (upd (upd (upd (upd (upd (upd (upd (upd (upd (upd (upd (upd (upd (upd (upd (upd (upd (upd (upd (upd (upd (upd (upd (upd f 38 (f 34)) 37 (f 33)) 36 (f 32)) 35 (f 31)) 34 (f 30)) 33 (f 29)) 32 (f 28)) 31 (f 27)) 30 (f 26)) 29 (f 25)) 28 (f 24)) 27 (f 23)) 26 (f 22)) 25 (f 21)) 24 (f 20)) 23 (f 19)) 22 (f 18)) 21 (f 17)) 20 (f 16)) 19 (f 15)) 15 (f 0)) 16 tr) 17 bl) 14 ((f 14) + 0)))), (ad, .inl (cI, 39, .inl g)), (pa, .inl (cI, 195, .inl pf)), (eA, .inl (cI, 3, .inl z))]) S G 1 0 rfl rfl (by unfold vp_in; decide) dX4_record_89 rfl (fun H locs G => ?_)
    have G := Gd.arr (ws1 := [(y, .inr (4, [.ref nw, .ref ad, .ref pa, .int sn, .ref eA, .long hs])), (nw, .inl (cI, 39, .inl (recF f tr bl ((f 14) + 0)))), (ad, .inl (cI, 39, .inl g)), (pa, .inl (cI, 195, .inl pf)), (eA, .inl (cI, 3, .inl z))]) G 1 (recF f tr bl ((f 14) + 0)) rfl (all39 rfl rfl rfl rfl rfl rfl rfl rfl rfl rfl rfl rfl rfl rfl rfl rfl rfl rfl rfl rfl rfl rfl rfl rfl rfl rfl rfl rfl rfl rfl rfl rfl rfl rfl rfl rfl rfl rfl rfl) rfl
    have es : (s_X4_record f tr bl) = (recF f tr bl ((f 14) + 0)) := by rw [s_X4_record, if_pos c_22]
    exact k_vret S G hr hlk dX4_record_90 (by first | (rw [es]; done) | (rw [es]; rfl) | (simp only [es]; done) | (simp only [es]; rfl))
  · skip
    refine lv_iconst (v := 1) hx hb dX4_record_83 (by decide) ?_
    refine lv_goto (tgt := 88) hx hb dX4_record_84 (by decide) ?_
    refine lv_iadd hx hb dX4_record_88 ?_
    refine k_iast (ws1 := [(y, .inr (4, [.ref nw, .ref ad, .ref pa, .int sn, .ref eA, .long hs])), (nw, .inl (cI, 39, .inl (upd (upd (upd (upd (upd (upd (upd (upd (upd (upd (upd (upd (upd (upd (upd (upd (upd (upd (upd (upd (upd (upd (upd (upd f 38 (f 34)) 37 (f 33)) 36 (f 32)) 35 (f 31)) 34 (f 30)) 33 (f 29)) 32 (f 28)) 31 (f 27)) 30 (f 26)) 29 (f 25)) 28 (f 24)) 27 (f 23)) 26 (f 22)) 25 (f 21)) 24 (f 20)) 23 (f 19)) 22 (f 18)) 21 (f 17)) 20 (f 16)) 19 (f 15)) 15 (f 0)) 16 tr) 17 bl) 14 ((f 14) + 1)))), (ad, .inl (cI, 39, .inl g)), (pa, .inl (cI, 195, .inl pf)), (eA, .inl (cI, 3, .inl z))]) S G 1 0 rfl rfl (by unfold vp_in; decide) dX4_record_89 rfl (fun H locs G => ?_)
    have G := Gd.arr (ws1 := [(y, .inr (4, [.ref nw, .ref ad, .ref pa, .int sn, .ref eA, .long hs])), (nw, .inl (cI, 39, .inl (recF f tr bl ((f 14) + 1)))), (ad, .inl (cI, 39, .inl g)), (pa, .inl (cI, 195, .inl pf)), (eA, .inl (cI, 3, .inl z))]) G 1 (recF f tr bl ((f 14) + 1)) rfl (all39 rfl rfl rfl rfl rfl rfl rfl rfl rfl rfl rfl rfl rfl rfl rfl rfl rfl rfl rfl rfl rfl rfl rfl rfl rfl rfl rfl rfl rfl rfl rfl rfl rfl rfl rfl rfl rfl rfl rfl) rfl
    have es : (s_X4_record f tr bl) = (recF f tr bl ((f 14) + 1)) := by rw [s_X4_record, if_neg c_22]
    exact k_vret S G hr hlk dX4_record_90 (by first | (rw [es]; done) | (rw [es]; rfl) | (simp only [es]; done) | (simp only [es]; rfl))
def s_X4_blowsOf_0 (f : Nat → Int32) (du : Int32) : Int32 := (if (f 4) = 0 then 0 else (if (f 4) = 1 then (f 5) else du))
set_option maxHeartbeats 4000000 in
set_option maxRecDepth 100000 in
theorem c_X4_blowsOf_0 (l : Launch) (D : va_G) (cI cS : ClassId) (y : Nat) (nw : Nat) (ad : Nat) (pa : Nat) (eA : Nat) (sn : Int32) (hs : Int64) (f : Nat → Int32) (g : Nat → Int32) (pf : Nat → Int32) (z : Nat → Int32) (du : Int32) : Ct l yX4_blowsOf wsX4_blowsOf ({ frames := 1, cells := 0, slots := 0, locals := 21 }) D (tyL cI cS) [.ref y, .int 0, .int du] [(y, .inr (4, [.ref nw, .ref ad, .ref pa, .int sn, .ref eA, .long hs])), (nw, .inl (cI, 39, .inl f)), (ad, .inl (cI, 39, .inl g)), (pa, .inl (cI, 195, .inl pf)), (eA, .inl (cI, 3, .inl z))] (some (.int (s_X4_blowsOf_0 f du))) [(y, .inr (4, [.ref nw, .ref ad, .ref pa, .int sn, .ref eA, .long hs])), (nw, .inl (cI, 39, .inl f)), (ad, .inl (cI, 39, .inl g)), (pa, .inl (cI, 195, .inl pf)), (eA, .inl (cI, 3, .inl z))] := by
  refine Ct.of (cc := cX4_blowsOf) (maxL := 4) (ret := (some .int)) (by decide) rfl (Nat.le_of_ble_eq_true rfl) ?_
  intro p ev s m args below meth c A ls S hr hlk G hl
  have hx := S.1
  have hb := S.2.1
  have hown : s.vm.findClass RX4 = some m.cls := S.2.2.2.1
  have hts := S.2.2.2.2
  have hl : lv_has ls 4 [(0, .ref y), (1, .int 0), (2, .int du)] := hl
  have hiX4 : ∀ w ∈ wsX40, w ∈ wsX4_blowsOf := by decide +kernel
  have hf7 := hts (.fieldLink RX4 7 "StrikingWorkModel" "now" "[I") (by decide +kernel)
  refine lv_aload_n hx hb dX4_blowsOf_0 rfl (lv_at hl 0 rfl) ?_
  refine k_get (v := .ref nw) S G 0 rfl rfl hiX4 0 (by decide) hf7 rfl dX4_blowsOf_1 ?_
  refine lv_iload_n hx hb dX4_blowsOf_4 rfl (lv_at hl 1 rfl) ?_
  refine lv_iconst (v := 0) hx hb dX4_blowsOf_5 (by decide) ?_
  refine k_callS (n := 2) (As := [.int 0, .int 0]) (rest := [.ref nw]) (st1 := [.int 4, .ref nw]) (ws1 := [(y, .inr (4, [.ref nw, .ref ad, .ref pa, .int sn, .ref eA, .long hs])), (nw, .inl (cI, 39, .inl f)), (ad, .inl (cI, 39, .inl g)), (pa, .inl (cI, 195, .inl pf)), (eA, .inl (cI, 3, .inl z))]) S G (c_X4_at l D cI cS 0 0) gX4_blowsOf_X4_at rfl (by decide +kernel) ⟨⟨rfl, rfl⟩, Nat.le_of_ble_eq_true rfl, Nat.le_of_ble_eq_true rfl⟩ [] (by decide) rfl [] rfl rfl rfl hl.1 rfl (Nat.le_of_ble_eq_true rfl) ⟨Nat.zero_le _, Nat.zero_le _⟩ dX4_blowsOf_6 (congrArg (fun z => Value.int z :: [.ref nw]) (by decide : (s_X4_at 0 0) = 4)) rfl (fun H locs G => ?_)
  refine k_iald (x := (f 4)) S G 1 0 rfl rfl (by unfold vp_in; decide) rfl dX4_blowsOf_9 ?_
  refine lv_istore_n (lv' := [(3, .int (f 4)), (0, .ref y), (1, .int 0), (2, .int du)]) hx hb dX4_blowsOf_10 rfl hl (by decide) rfl (fun ls hl => ?_)
  refine lv_iload_n hx hb dX4_blowsOf_11 rfl (lv_at hl 0 rfl) ?_
  refine lv_if_ne (tgt := 19) hx hb dX4_blowsOf_12 (by decide) (fun c_1 => ?_) (fun c_1 => ?_)
  · skip
    refine lv_iload_n hx hb dX4_blowsOf_19 rfl (lv_at hl 0 rfl) ?_
    refine lv_iconst (v := 1) hx hb dX4_blowsOf_20 (by decide) ?_
    refine lv_icmp_ne (tgt := 37) hx hb dX4_blowsOf_21 (by decide) (fun c_2 => ?_) (fun c_2 => ?_)
    · skip
      refine lv_iload_n hx hb dX4_blowsOf_37 rfl (lv_at hl 3 rfl) ?_
      have es : (s_X4_blowsOf_0 f du) = du := by rw [s_X4_blowsOf_0, if_neg c_1, if_neg c_2]
      exact k_iret S G hr hlk dX4_blowsOf_38 (by first | (rw [es]; done) | (rw [es]; rfl) | (simp only [es]; done) | (simp only [es]; rfl)) rfl
    · skip
      refine lv_aload_n hx hb dX4_blowsOf_24 rfl (lv_at hl 1 rfl) ?_
      refine k_get (v := .ref nw) S G 0 rfl rfl hiX4 0 (by decide) hf7 rfl dX4_blowsOf_25 ?_
      refine lv_iload_n hx hb dX4_blowsOf_28 rfl (lv_at hl 2 rfl) ?_
      refine lv_iconst (v := 1) hx hb dX4_blowsOf_29 (by decide) ?_
      refine k_callS (n := 2) (As := [.int 0, .int 1]) (rest := [.ref nw]) (st1 := [.int 5, .ref nw]) (ws1 := [(y, .inr (4, [.ref nw, .ref ad, .ref pa, .int sn, .ref eA, .long hs])), (nw, .inl (cI, 39, .inl f)), (ad, .inl (cI, 39, .inl g)), (pa, .inl (cI, 195, .inl pf)), (eA, .inl (cI, 3, .inl z))]) S G (c_X4_at l D cI cS 0 1) gX4_blowsOf_X4_at rfl (by decide +kernel) ⟨⟨rfl, rfl⟩, Nat.le_of_ble_eq_true rfl, Nat.le_of_ble_eq_true rfl⟩ [] (by decide) rfl [] rfl rfl rfl hl.1 rfl (Nat.le_of_ble_eq_true rfl) ⟨Nat.zero_le _, Nat.zero_le _⟩ dX4_blowsOf_30 (congrArg (fun z => Value.int z :: [.ref nw]) (by decide : (s_X4_at 0 1) = 5)) rfl (fun H locs G => ?_)
      refine k_iald (x := (f 5)) S G 1 0 rfl rfl (by unfold vp_in; decide) rfl dX4_blowsOf_33 ?_
      refine lv_goto (tgt := 38) hx hb dX4_blowsOf_34 (by decide) ?_
      have es : (s_X4_blowsOf_0 f du) = (f 5) := by rw [s_X4_blowsOf_0, if_neg c_1, if_pos c_2]
      exact k_iret S G hr hlk dX4_blowsOf_38 (by first | (rw [es]; done) | (rw [es]; rfl) | (simp only [es]; done) | (simp only [es]; rfl)) rfl
  · skip
    refine lv_iconst (v := 0) hx hb dX4_blowsOf_15 (by decide) ?_
    refine lv_goto (tgt := 38) hx hb dX4_blowsOf_16 (by decide) ?_
    have es : (s_X4_blowsOf_0 f du) = 0 := by rw [s_X4_blowsOf_0, if_pos c_1]
    exact k_iret S G hr hlk dX4_blowsOf_38 (by first | (rw [es]; done) | (rw [es]; rfl) | (simp only [es]; done) | (simp only [es]; rfl)) rfl
def s_X4_strike_0 (f : Nat → Int32) (bl : Int32) (lf : Int32) : Int32 × (Nat → Int32) := (if (f 4) = 1 then (if lf = 0 then (bl, (upd (s_X4_record (upd (upd f 6 ((f 6) - bl)) 5 ((irem (f 5) 12) + 1)) 0 bl) 7 (((s_X4_record (upd (upd f 6 ((f 6) - bl)) 5 ((irem (f 5) 12) + 1)) 0 bl) 7) + bl))) else (0, (upd (s_X4_record (upd (upd f 6 ((f 6) - bl)) 5 ((irem (f 5) 12) + 1)) 0 (-bl)) 7 (((s_X4_record (upd (upd f 6 ((f 6) - bl)) 5 ((irem (f 5) 12) + 1)) 0 (-bl)) 7) + 0)))) else (if lf = 0 then (bl, (upd (s_X4_record (upd f 6 ((f 6) - bl)) 0 bl) 7 (((s_X4_record (upd f 6 ((f 6) - bl)) 0 bl) 7) + bl))) else (0, (upd (s_X4_record (upd f 6 ((f 6) - bl)) 0 (-bl)) 7 (((s_X4_record (upd f 6 ((f 6) - bl)) 0 (-bl)) 7) + 0)))))
set_option maxHeartbeats 4000000 in
set_option maxRecDepth 100000 in
theorem c_X4_strike_0 (l : Launch) (D : va_G) (cI cS : ClassId) (y : Nat) (nw : Nat) (ad : Nat) (pa : Nat) (eA : Nat) (sn : Int32) (hs : Int64) (f : Nat → Int32) (g : Nat → Int32) (pf : Nat → Int32) (z : Nat → Int32) (bl : Int32) (lf : Int32) : Ct l yX4_strike wsX4_strike ({ frames := 1, cells := 0, slots := 0, locals := 23 }) D (tyL cI cS) [.ref y, .int 0, .int bl, .int lf] [(y, .inr (4, [.ref nw, .ref ad, .ref pa, .int sn, .ref eA, .long hs])), (nw, .inl (cI, 39, .inl f)), (ad, .inl (cI, 39, .inl g)), (pa, .inl (cI, 195, .inl pf)), (eA, .inl (cI, 3, .inl z))] (some (.int ((s_X4_strike_0 f bl lf).1))) [(y, .inr (4, [.ref nw, .ref ad, .ref pa, .int sn, .ref eA, .long hs])), (nw, .inl (cI, 39, .inl ((s_X4_strike_0 f bl lf).2))), (ad, .inl (cI, 39, .inl g)), (pa, .inl (cI, 195, .inl pf)), (eA, .inl (cI, 3, .inl z))] := by
  refine Ct.of (cc := cX4_strike) (maxL := 4) (ret := (some .int)) (by decide) rfl (Nat.le_of_ble_eq_true rfl) ?_
  intro p ev s m args below meth c A ls S hr hlk G hl
  have hx := S.1
  have hb := S.2.1
  have hown : s.vm.findClass RX4 = some m.cls := S.2.2.2.1
  have hts := S.2.2.2.2
  have hl : lv_has ls 4 [(0, .ref y), (1, .int 0), (2, .int bl), (3, .int lf)] := hl
  have hiX4 : ∀ w ∈ wsX40, w ∈ wsX4_strike := by decide +kernel
  have hf7 := hts (.fieldLink RX4 7 "StrikingWorkModel" "now" "[I") (by decide +kernel)
  refine lv_aload_n hx hb dX4_strike_0 rfl (lv_at hl 0 rfl) ?_
  refine k_get (v := .ref nw) S G 0 rfl rfl hiX4 0 (by decide) hf7 rfl dX4_strike_1 ?_
  refine lv_iload_n hx hb dX4_strike_4 rfl (lv_at hl 1 rfl) ?_
  refine lv_iconst (v := 2) hx hb dX4_strike_5 (by decide) ?_
  refine k_callS (n := 2) (As := [.int 0, .int 2]) (rest := [.ref nw]) (st1 := [.int 6, .ref nw]) (ws1 := [(y, .inr (4, [.ref nw, .ref ad, .ref pa, .int sn, .ref eA, .long hs])), (nw, .inl (cI, 39, .inl f)), (ad, .inl (cI, 39, .inl g)), (pa, .inl (cI, 195, .inl pf)), (eA, .inl (cI, 3, .inl z))]) S G (c_X4_at l D cI cS 0 2) gX4_strike_X4_at rfl (by decide +kernel) ⟨⟨rfl, rfl⟩, Nat.le_of_ble_eq_true rfl, Nat.le_of_ble_eq_true rfl⟩ [] (by decide) rfl [] rfl rfl rfl hl.1 rfl (Nat.le_of_ble_eq_true rfl) ⟨Nat.zero_le _, Nat.zero_le _⟩ dX4_strike_6 (congrArg (fun z => Value.int z :: [.ref nw]) (by decide : (s_X4_at 0 2) = 6)) rfl (fun H locs G => ?_)
  refine lv_dup2_11 hx hb dX4_strike_9 rfl rfl ?_
  refine k_iald (x := (f 6)) S G 1 0 rfl rfl (by unfold vp_in; decide) rfl dX4_strike_10 ?_
  refine lv_iload_n hx hb dX4_strike_11 rfl (lv_at hl 2 rfl) ?_
  refine lv_isub hx hb dX4_strike_12 ?_
  refine k_iast (ws1 := [(y, .inr (4, [.ref nw, .ref ad, .ref pa, .int sn, .ref eA, .long hs])), (nw, .inl (cI, 39, .inl (upd f 6 ((f 6) - bl)))), (ad, .inl (cI, 39, .inl g)), (pa, .inl (cI, 195, .inl pf)), (eA, .inl (cI, 3, .inl z))]) S G 1 0 rfl rfl (by unfold vp_in; decide) dX4_strike_13 rfl (fun H locs G => ?_)
  refine lv_aload_n hx hb dX4_strike_14 rfl (lv_at hl 0 rfl) ?_
  refine k_get (v := .ref nw) S G 0 rfl rfl hiX4 0 (by decide) hf7 rfl dX4_strike_15 ?_
  refine lv_iload_n hx hb dX4_strike_18 rfl (lv_at hl 1 rfl) ?_
  refine lv_iconst (v := 0) hx hb dX4_strike_19 (by decide) ?_
  refine k_callS (n := 2) (As := [.int 0, .int 0]) (rest := [.ref nw]) (st1 := [.int 4, .ref nw]) (ws1 := [(y, .inr (4, [.ref nw, .ref ad, .ref pa, .int sn, .ref eA, .long hs])), (nw, .inl (cI, 39, .inl (upd f 6 ((f 6) - bl)))), (ad, .inl (cI, 39, .inl g)), (pa, .inl (cI, 195, .inl pf)), (eA, .inl (cI, 3, .inl z))]) S G (c_X4_at l D cI cS 0 0) gX4_strike_X4_at rfl (by decide +kernel) ⟨⟨rfl, rfl⟩, Nat.le_of_ble_eq_true rfl, Nat.le_of_ble_eq_true rfl⟩ [] (by decide) rfl [] rfl rfl rfl hl.1 rfl (Nat.le_of_ble_eq_true rfl) ⟨Nat.zero_le _, Nat.zero_le _⟩ dX4_strike_20 (congrArg (fun z => Value.int z :: [.ref nw]) (by decide : (s_X4_at 0 0) = 4)) rfl (fun H locs G => ?_)
  refine k_iald (x := (f 4)) S G 1 0 rfl rfl (by unfold vp_in; decide) rfl dX4_strike_23 ?_
  refine lv_iconst (v := 1) hx hb dX4_strike_24 (by decide) ?_
  refine lv_icmp_ne (tgt := 55) hx hb dX4_strike_25 (by decide) (fun c_1 => ?_) (fun c_1 => ?_)
  · skip
    refine lv_aload_n hx hb dX4_strike_55 rfl (lv_at hl 0 rfl) ?_
    refine lv_iload_n hx hb dX4_strike_56 rfl (lv_at hl 1 rfl) ?_
    refine lv_iload_n hx hb dX4_strike_57 rfl (lv_at hl 3 rfl) ?_
    refine lv_if_eq (tgt := 66) hx hb dX4_strike_58 (by decide) (fun c_2 => ?_) (fun c_2 => ?_)
    · skip
      refine lv_iload_n hx hb dX4_strike_66 rfl (lv_at hl 2 rfl) ?_
      refine k_callV (n := 2) (As := [.int 0, .int bl]) (rest := []) (st1 := []) (ws1 := [(y, .inr (4, [.ref nw, .ref ad, .ref pa, .int sn, .ref eA, .long hs])), (nw, .inl (cI, 39, .inl (s_X4_record (upd f 6 ((f 6) - bl)) 0 bl))), (ad, .inl (cI, 39, .inl g)), (pa, .inl (cI, 195, .inl pf)), (eA, .inl (cI, 3, .inl z))]) S G (c_X4_record l D cI cS y nw ad pa eA sn hs (upd f 6 ((f 6) - bl)) g pf z 0 bl) gX4_strike_X4_record rfl (by decide +kernel) ⟨⟨rfl, rfl⟩, Nat.le_of_ble_eq_true rfl, Nat.le_of_ble_eq_true rfl⟩ [0, 1, 2, 3, 4] (by decide) rfl [y, nw, ad, pa, eA] rfl rfl 0 rfl rfl rfl hl.1 rfl (Nat.le_of_ble_eq_true rfl) ⟨Nat.zero_le _, Nat.zero_le _⟩ dX4_strike_67 rfl rfl (fun H locs G => ?_)
      refine lv_aload_n hx hb dX4_strike_70 rfl (lv_at hl 0 rfl) ?_
      refine k_get (v := .ref nw) S G 0 rfl rfl hiX4 0 (by decide) hf7 rfl dX4_strike_71 ?_
      refine lv_iload_n hx hb dX4_strike_74 rfl (lv_at hl 1 rfl) ?_
      refine lv_iconst (v := 3) hx hb dX4_strike_75 (by decide) ?_
      refine k_callS (n := 2) (As := [.int 0, .int 3]) (rest := [.ref nw]) (st1 := [.int 7, .ref nw]) (ws1 := [(y, .inr (4, [.ref nw, .ref ad, .ref pa, .int sn, .ref eA, .long hs])), (nw, .inl (cI, 39, .inl (s_X4_record (upd f 6 ((f 6) - bl)) 0 bl))), (ad, .inl (cI, 39, .inl g)), (pa, .inl (cI, 195, .inl pf)), (eA, .inl (cI, 3, .inl z))]) S G (c_X4_at l D cI cS 0 3) gX4_strike_X4_at rfl (by decide +kernel) ⟨⟨rfl, rfl⟩, Nat.le_of_ble_eq_true rfl, Nat.le_of_ble_eq_true rfl⟩ [] (by decide) rfl [] rfl rfl rfl hl.1 rfl (Nat.le_of_ble_eq_true rfl) ⟨Nat.zero_le _, Nat.zero_le _⟩ dX4_strike_76 (congrArg (fun z => Value.int z :: [.ref nw]) (by decide : (s_X4_at 0 3) = 7)) rfl (fun H locs G => ?_)
      refine lv_dup2_11 hx hb dX4_strike_79 rfl rfl ?_
      refine k_iald (x := ((s_X4_record (upd f 6 ((f 6) - bl)) 0 bl) 7)) S G 1 0 rfl rfl (by unfold vp_in; decide) rfl dX4_strike_80 ?_
      refine lv_iload_n hx hb dX4_strike_81 rfl (lv_at hl 3 rfl) ?_
      refine lv_if_eq (tgt := 89) hx hb dX4_strike_82 (by decide) (fun c_3 => ?_) (fun c_3 => absurd c_2 c_3)
      refine lv_iload_n hx hb dX4_strike_89 rfl (lv_at hl 2 rfl) ?_
      refine lv_iadd hx hb dX4_strike_90 ?_
      refine k_iast (ws1 := [(y, .inr (4, [.ref nw, .ref ad, .ref pa, .int sn, .ref eA, .long hs])), (nw, .inl (cI, 39, .inl (upd (s_X4_record (upd f 6 ((f 6) - bl)) 0 bl) 7 (((s_X4_record (upd f 6 ((f 6) - bl)) 0 bl) 7) + bl)))), (ad, .inl (cI, 39, .inl g)), (pa, .inl (cI, 195, .inl pf)), (eA, .inl (cI, 3, .inl z))]) S G 1 0 rfl rfl (by unfold vp_in; decide) dX4_strike_91 rfl (fun H locs G => ?_)
      refine lv_iload_n hx hb dX4_strike_92 rfl (lv_at hl 3 rfl) ?_
      refine lv_if_eq (tgt := 100) hx hb dX4_strike_93 (by decide) (fun c_4 => ?_) (fun c_4 => absurd c_2 c_4)
      refine lv_iload_n hx hb dX4_strike_100 rfl (lv_at hl 2 rfl) ?_
      have es : (s_X4_strike_0 f bl lf) = (bl, (upd (s_X4_record (upd f 6 ((f 6) - bl)) 0 bl) 7 (((s_X4_record (upd f 6 ((f 6) - bl)) 0 bl) 7) + bl))) := by rw [s_X4_strike_0, if_neg c_1, if_pos c_2]
      exact k_iret S G hr hlk dX4_strike_101 (by first | (rw [es]; done) | (rw [es]; rfl) | (simp only [es]; done) | (simp only [es]; rfl)) (by first | (rw [es]; done) | (rw [es]; rfl) | (simp only [es]; done) | (simp only [es]; rfl))
    · skip
      refine lv_iload_n hx hb dX4_strike_61 rfl (lv_at hl 2 rfl) ?_
      refine lv_ineg hx hb dX4_strike_62 ?_
      refine lv_goto (tgt := 67) hx hb dX4_strike_63 (by decide) ?_
      refine k_callV (n := 2) (As := [.int 0, .int (-bl)]) (rest := []) (st1 := []) (ws1 := [(y, .inr (4, [.ref nw, .ref ad, .ref pa, .int sn, .ref eA, .long hs])), (nw, .inl (cI, 39, .inl (s_X4_record (upd f 6 ((f 6) - bl)) 0 (-bl)))), (ad, .inl (cI, 39, .inl g)), (pa, .inl (cI, 195, .inl pf)), (eA, .inl (cI, 3, .inl z))]) S G (c_X4_record l D cI cS y nw ad pa eA sn hs (upd f 6 ((f 6) - bl)) g pf z 0 (-bl)) gX4_strike_X4_record rfl (by decide +kernel) ⟨⟨rfl, rfl⟩, Nat.le_of_ble_eq_true rfl, Nat.le_of_ble_eq_true rfl⟩ [0, 1, 2, 3, 4] (by decide) rfl [y, nw, ad, pa, eA] rfl rfl 0 rfl rfl rfl hl.1 rfl (Nat.le_of_ble_eq_true rfl) ⟨Nat.zero_le _, Nat.zero_le _⟩ dX4_strike_67 rfl rfl (fun H locs G => ?_)
      refine lv_aload_n hx hb dX4_strike_70 rfl (lv_at hl 0 rfl) ?_
      refine k_get (v := .ref nw) S G 0 rfl rfl hiX4 0 (by decide) hf7 rfl dX4_strike_71 ?_
      refine lv_iload_n hx hb dX4_strike_74 rfl (lv_at hl 1 rfl) ?_
      refine lv_iconst (v := 3) hx hb dX4_strike_75 (by decide) ?_
      refine k_callS (n := 2) (As := [.int 0, .int 3]) (rest := [.ref nw]) (st1 := [.int 7, .ref nw]) (ws1 := [(y, .inr (4, [.ref nw, .ref ad, .ref pa, .int sn, .ref eA, .long hs])), (nw, .inl (cI, 39, .inl (s_X4_record (upd f 6 ((f 6) - bl)) 0 (-bl)))), (ad, .inl (cI, 39, .inl g)), (pa, .inl (cI, 195, .inl pf)), (eA, .inl (cI, 3, .inl z))]) S G (c_X4_at l D cI cS 0 3) gX4_strike_X4_at rfl (by decide +kernel) ⟨⟨rfl, rfl⟩, Nat.le_of_ble_eq_true rfl, Nat.le_of_ble_eq_true rfl⟩ [] (by decide) rfl [] rfl rfl rfl hl.1 rfl (Nat.le_of_ble_eq_true rfl) ⟨Nat.zero_le _, Nat.zero_le _⟩ dX4_strike_76 (congrArg (fun z => Value.int z :: [.ref nw]) (by decide : (s_X4_at 0 3) = 7)) rfl (fun H locs G => ?_)
      refine lv_dup2_11 hx hb dX4_strike_79 rfl rfl ?_
      refine k_iald (x := ((s_X4_record (upd f 6 ((f 6) - bl)) 0 (-bl)) 7)) S G 1 0 rfl rfl (by unfold vp_in; decide) rfl dX4_strike_80 ?_
      refine lv_iload_n hx hb dX4_strike_81 rfl (lv_at hl 3 rfl) ?_
      refine lv_if_eq (tgt := 89) hx hb dX4_strike_82 (by decide) (fun c_5 => absurd c_5 c_2) (fun c_5 => ?_)
      refine lv_iconst (v := 0) hx hb dX4_strike_85 (by decide) ?_
      refine lv_goto (tgt := 90) hx hb dX4_strike_86 (by decide) ?_
      refine lv_iadd hx hb dX4_strike_90 ?_
      refine k_iast (ws1 := [(y, .inr (4, [.ref nw, .ref ad, .ref pa, .int sn, .ref eA, .long hs])), (nw, .inl (cI, 39, .inl (upd (s_X4_record (upd f 6 ((f 6) - bl)) 0 (-bl)) 7 (((s_X4_record (upd f 6 ((f 6) - bl)) 0 (-bl)) 7) + 0)))), (ad, .inl (cI, 39, .inl g)), (pa, .inl (cI, 195, .inl pf)), (eA, .inl (cI, 3, .inl z))]) S G 1 0 rfl rfl (by unfold vp_in; decide) dX4_strike_91 rfl (fun H locs G => ?_)
      refine lv_iload_n hx hb dX4_strike_92 rfl (lv_at hl 3 rfl) ?_
      refine lv_if_eq (tgt := 100) hx hb dX4_strike_93 (by decide) (fun c_6 => absurd c_6 c_2) (fun c_6 => ?_)
      refine lv_iconst (v := 0) hx hb dX4_strike_96 (by decide) ?_
      refine lv_goto (tgt := 101) hx hb dX4_strike_97 (by decide) ?_
      have es : (s_X4_strike_0 f bl lf) = (0, (upd (s_X4_record (upd f 6 ((f 6) - bl)) 0 (-bl)) 7 (((s_X4_record (upd f 6 ((f 6) - bl)) 0 (-bl)) 7) + 0))) := by rw [s_X4_strike_0, if_neg c_1, if_neg c_2]
      exact k_iret S G hr hlk dX4_strike_101 (by first | (rw [es]; done) | (rw [es]; rfl) | (simp only [es]; done) | (simp only [es]; rfl)) (by first | (rw [es]; done) | (rw [es]; rfl) | (simp only [es]; done) | (simp only [es]; rfl))
  · skip
    refine lv_aload_n hx hb dX4_strike_28 rfl (lv_at hl 0 rfl) ?_
    refine k_get (v := .ref nw) S G 0 rfl rfl hiX4 0 (by decide) hf7 rfl dX4_strike_29 ?_
    refine lv_iload_n hx hb dX4_strike_32 rfl (lv_at hl 1 rfl) ?_
    refine lv_iconst (v := 1) hx hb dX4_strike_33 (by decide) ?_
    refine k_callS (n := 2) (As := [.int 0, .int 1]) (rest := [.ref nw]) (st1 := [.int 5, .ref nw]) (ws1 := [(y, .inr (4, [.ref nw, .ref ad, .ref pa, .int sn, .ref eA, .long hs])), (nw, .inl (cI, 39, .inl (upd f 6 ((f 6) - bl)))), (ad, .inl (cI, 39, .inl g)), (pa, .inl (cI, 195, .inl pf)), (eA, .inl (cI, 3, .inl z))]) S G (c_X4_at l D cI cS 0 1) gX4_strike_X4_at rfl (by decide +kernel) ⟨⟨rfl, rfl⟩, Nat.le_of_ble_eq_true rfl, Nat.le_of_ble_eq_true rfl⟩ [] (by decide) rfl [] rfl rfl rfl hl.1 rfl (Nat.le_of_ble_eq_true rfl) ⟨Nat.zero_le _, Nat.zero_le _⟩ dX4_strike_34 (congrArg (fun z => Value.int z :: [.ref nw]) (by decide : (s_X4_at 0 1) = 5)) rfl (fun H locs G => ?_)
    refine lv_aload_n hx hb dX4_strike_37 rfl (lv_at hl 0 rfl) ?_
    refine k_get (v := .ref nw) S G 0 rfl rfl hiX4 0 (by decide) hf7 rfl dX4_strike_38 ?_
    refine lv_iload_n hx hb dX4_strike_41 rfl (lv_at hl 1 rfl) ?_
    refine lv_iconst (v := 1) hx hb dX4_strike_42 (by decide) ?_
    refine k_callS (n := 2) (As := [.int 0, .int 1]) (rest := [.ref nw, .int 5, .ref nw]) (st1 := [.int 5, .ref nw, .int 5, .ref nw]) (ws1 := [(y, .inr (4, [.ref nw, .ref ad, .ref pa, .int sn, .ref eA, .long hs])), (nw, .inl (cI, 39, .inl (upd f 6 ((f 6) - bl)))), (ad, .inl (cI, 39, .inl g)), (pa, .inl (cI, 195, .inl pf)), (eA, .inl (cI, 3, .inl z))]) S G (c_X4_at l D cI cS 0 1) gX4_strike_X4_at rfl (by decide +kernel) ⟨⟨rfl, rfl⟩, Nat.le_of_ble_eq_true rfl, Nat.le_of_ble_eq_true rfl⟩ [] (by decide) rfl [] rfl rfl rfl hl.1 rfl (Nat.le_of_ble_eq_true rfl) ⟨Nat.zero_le _, Nat.zero_le _⟩ dX4_strike_43 (congrArg (fun z => Value.int z :: [.ref nw, .int 5, .ref nw]) (by decide : (s_X4_at 0 1) = 5)) rfl (fun H locs G => ?_)
    refine k_iald (x := (f 5)) S G 1 0 rfl rfl (by unfold vp_in; decide) rfl dX4_strike_46 ?_
    refine lv_iload_n hx hb dX4_strike_47 rfl (lv_at hl 1 rfl) ?_
    refine k_callS (n := 1) (As := [.int 0]) (rest := [.int (f 5), .int 5, .ref nw]) (st1 := [.int 12, .int (f 5), .int 5, .ref nw]) (ws1 := [(y, .inr (4, [.ref nw, .ref ad, .ref pa, .int sn, .ref eA, .long hs])), (nw, .inl (cI, 39, .inl (upd f 6 ((f 6) - bl)))), (ad, .inl (cI, 39, .inl g)), (pa, .inl (cI, 195, .inl pf)), (eA, .inl (cI, 3, .inl z))]) S G (c_X4_positions l D cI cS 0) gX4_strike_X4_positions rfl (by decide +kernel) ⟨⟨rfl, rfl⟩, Nat.le_of_ble_eq_true rfl, Nat.le_of_ble_eq_true rfl⟩ [] (by decide) rfl [] rfl rfl rfl hl.1 rfl (Nat.le_of_ble_eq_true rfl) ⟨Nat.zero_le _, Nat.zero_le _⟩ dX4_strike_48 (congrArg (fun z => Value.int z :: [.int (f 5), .int 5, .ref nw]) (by decide : (s_X4_positions 0) = 12)) rfl (fun H locs G => ?_)
    refine lv_irem hx hb dX4_strike_51 (by decide) ?_
    refine lv_lit (v := (irem (f 5) 12)) rfl ?_
    refine lv_iconst (v := 1) hx hb dX4_strike_52 (by decide) ?_
    refine lv_iadd hx hb dX4_strike_53 ?_
    refine k_iast (ws1 := [(y, .inr (4, [.ref nw, .ref ad, .ref pa, .int sn, .ref eA, .long hs])), (nw, .inl (cI, 39, .inl (upd (upd f 6 ((f 6) - bl)) 5 ((irem (f 5) 12) + 1)))), (ad, .inl (cI, 39, .inl g)), (pa, .inl (cI, 195, .inl pf)), (eA, .inl (cI, 3, .inl z))]) S G 1 0 rfl rfl (by unfold vp_in; decide) dX4_strike_54 rfl (fun H locs G => ?_)
    refine lv_aload_n hx hb dX4_strike_55 rfl (lv_at hl 0 rfl) ?_
    refine lv_iload_n hx hb dX4_strike_56 rfl (lv_at hl 1 rfl) ?_
    refine lv_iload_n hx hb dX4_strike_57 rfl (lv_at hl 3 rfl) ?_
    refine lv_if_eq (tgt := 66) hx hb dX4_strike_58 (by decide) (fun c_7 => ?_) (fun c_7 => ?_)
    · skip
      refine lv_iload_n hx hb dX4_strike_66 rfl (lv_at hl 2 rfl) ?_
      refine k_callV (n := 2) (As := [.int 0, .int bl]) (rest := []) (st1 := []) (ws1 := [(y, .inr (4, [.ref nw, .ref ad, .ref pa, .int sn, .ref eA, .long hs])), (nw, .inl (cI, 39, .inl (s_X4_record (upd (upd f 6 ((f 6) - bl)) 5 ((irem (f 5) 12) + 1)) 0 bl))), (ad, .inl (cI, 39, .inl g)), (pa, .inl (cI, 195, .inl pf)), (eA, .inl (cI, 3, .inl z))]) S G (c_X4_record l D cI cS y nw ad pa eA sn hs (upd (upd f 6 ((f 6) - bl)) 5 ((irem (f 5) 12) + 1)) g pf z 0 bl) gX4_strike_X4_record rfl (by decide +kernel) ⟨⟨rfl, rfl⟩, Nat.le_of_ble_eq_true rfl, Nat.le_of_ble_eq_true rfl⟩ [0, 1, 2, 3, 4] (by decide) rfl [y, nw, ad, pa, eA] rfl rfl 0 rfl rfl rfl hl.1 rfl (Nat.le_of_ble_eq_true rfl) ⟨Nat.zero_le _, Nat.zero_le _⟩ dX4_strike_67 rfl rfl (fun H locs G => ?_)
      refine lv_aload_n hx hb dX4_strike_70 rfl (lv_at hl 0 rfl) ?_
      refine k_get (v := .ref nw) S G 0 rfl rfl hiX4 0 (by decide) hf7 rfl dX4_strike_71 ?_
      refine lv_iload_n hx hb dX4_strike_74 rfl (lv_at hl 1 rfl) ?_
      refine lv_iconst (v := 3) hx hb dX4_strike_75 (by decide) ?_
      refine k_callS (n := 2) (As := [.int 0, .int 3]) (rest := [.ref nw]) (st1 := [.int 7, .ref nw]) (ws1 := [(y, .inr (4, [.ref nw, .ref ad, .ref pa, .int sn, .ref eA, .long hs])), (nw, .inl (cI, 39, .inl (s_X4_record (upd (upd f 6 ((f 6) - bl)) 5 ((irem (f 5) 12) + 1)) 0 bl))), (ad, .inl (cI, 39, .inl g)), (pa, .inl (cI, 195, .inl pf)), (eA, .inl (cI, 3, .inl z))]) S G (c_X4_at l D cI cS 0 3) gX4_strike_X4_at rfl (by decide +kernel) ⟨⟨rfl, rfl⟩, Nat.le_of_ble_eq_true rfl, Nat.le_of_ble_eq_true rfl⟩ [] (by decide) rfl [] rfl rfl rfl hl.1 rfl (Nat.le_of_ble_eq_true rfl) ⟨Nat.zero_le _, Nat.zero_le _⟩ dX4_strike_76 (congrArg (fun z => Value.int z :: [.ref nw]) (by decide : (s_X4_at 0 3) = 7)) rfl (fun H locs G => ?_)
      refine lv_dup2_11 hx hb dX4_strike_79 rfl rfl ?_
      refine k_iald (x := ((s_X4_record (upd (upd f 6 ((f 6) - bl)) 5 ((irem (f 5) 12) + 1)) 0 bl) 7)) S G 1 0 rfl rfl (by unfold vp_in; decide) rfl dX4_strike_80 ?_
      refine lv_iload_n hx hb dX4_strike_81 rfl (lv_at hl 3 rfl) ?_
      refine lv_if_eq (tgt := 89) hx hb dX4_strike_82 (by decide) (fun c_8 => ?_) (fun c_8 => absurd c_7 c_8)
      refine lv_iload_n hx hb dX4_strike_89 rfl (lv_at hl 2 rfl) ?_
      refine lv_iadd hx hb dX4_strike_90 ?_
      refine k_iast (ws1 := [(y, .inr (4, [.ref nw, .ref ad, .ref pa, .int sn, .ref eA, .long hs])), (nw, .inl (cI, 39, .inl (upd (s_X4_record (upd (upd f 6 ((f 6) - bl)) 5 ((irem (f 5) 12) + 1)) 0 bl) 7 (((s_X4_record (upd (upd f 6 ((f 6) - bl)) 5 ((irem (f 5) 12) + 1)) 0 bl) 7) + bl)))), (ad, .inl (cI, 39, .inl g)), (pa, .inl (cI, 195, .inl pf)), (eA, .inl (cI, 3, .inl z))]) S G 1 0 rfl rfl (by unfold vp_in; decide) dX4_strike_91 rfl (fun H locs G => ?_)
      refine lv_iload_n hx hb dX4_strike_92 rfl (lv_at hl 3 rfl) ?_
      refine lv_if_eq (tgt := 100) hx hb dX4_strike_93 (by decide) (fun c_9 => ?_) (fun c_9 => absurd c_7 c_9)
      refine lv_iload_n hx hb dX4_strike_100 rfl (lv_at hl 2 rfl) ?_
      have es : (s_X4_strike_0 f bl lf) = (bl, (upd (s_X4_record (upd (upd f 6 ((f 6) - bl)) 5 ((irem (f 5) 12) + 1)) 0 bl) 7 (((s_X4_record (upd (upd f 6 ((f 6) - bl)) 5 ((irem (f 5) 12) + 1)) 0 bl) 7) + bl))) := by rw [s_X4_strike_0, if_pos c_1, if_pos c_7]
      exact k_iret S G hr hlk dX4_strike_101 (by first | (rw [es]; done) | (rw [es]; rfl) | (simp only [es]; done) | (simp only [es]; rfl)) (by first | (rw [es]; done) | (rw [es]; rfl) | (simp only [es]; done) | (simp only [es]; rfl))
    · skip
      refine lv_iload_n hx hb dX4_strike_61 rfl (lv_at hl 2 rfl) ?_
      refine lv_ineg hx hb dX4_strike_62 ?_
      refine lv_goto (tgt := 67) hx hb dX4_strike_63 (by decide) ?_
      refine k_callV (n := 2) (As := [.int 0, .int (-bl)]) (rest := []) (st1 := []) (ws1 := [(y, .inr (4, [.ref nw, .ref ad, .ref pa, .int sn, .ref eA, .long hs])), (nw, .inl (cI, 39, .inl (s_X4_record (upd (upd f 6 ((f 6) - bl)) 5 ((irem (f 5) 12) + 1)) 0 (-bl)))), (ad, .inl (cI, 39, .inl g)), (pa, .inl (cI, 195, .inl pf)), (eA, .inl (cI, 3, .inl z))]) S G (c_X4_record l D cI cS y nw ad pa eA sn hs (upd (upd f 6 ((f 6) - bl)) 5 ((irem (f 5) 12) + 1)) g pf z 0 (-bl)) gX4_strike_X4_record rfl (by decide +kernel) ⟨⟨rfl, rfl⟩, Nat.le_of_ble_eq_true rfl, Nat.le_of_ble_eq_true rfl⟩ [0, 1, 2, 3, 4] (by decide) rfl [y, nw, ad, pa, eA] rfl rfl 0 rfl rfl rfl hl.1 rfl (Nat.le_of_ble_eq_true rfl) ⟨Nat.zero_le _, Nat.zero_le _⟩ dX4_strike_67 rfl rfl (fun H locs G => ?_)
      refine lv_aload_n hx hb dX4_strike_70 rfl (lv_at hl 0 rfl) ?_
      refine k_get (v := .ref nw) S G 0 rfl rfl hiX4 0 (by decide) hf7 rfl dX4_strike_71 ?_
      refine lv_iload_n hx hb dX4_strike_74 rfl (lv_at hl 1 rfl) ?_
      refine lv_iconst (v := 3) hx hb dX4_strike_75 (by decide) ?_
      refine k_callS (n := 2) (As := [.int 0, .int 3]) (rest := [.ref nw]) (st1 := [.int 7, .ref nw]) (ws1 := [(y, .inr (4, [.ref nw, .ref ad, .ref pa, .int sn, .ref eA, .long hs])), (nw, .inl (cI, 39, .inl (s_X4_record (upd (upd f 6 ((f 6) - bl)) 5 ((irem (f 5) 12) + 1)) 0 (-bl)))), (ad, .inl (cI, 39, .inl g)), (pa, .inl (cI, 195, .inl pf)), (eA, .inl (cI, 3, .inl z))]) S G (c_X4_at l D cI cS 0 3) gX4_strike_X4_at rfl (by decide +kernel) ⟨⟨rfl, rfl⟩, Nat.le_of_ble_eq_true rfl, Nat.le_of_ble_eq_true rfl⟩ [] (by decide) rfl [] rfl rfl rfl hl.1 rfl (Nat.le_of_ble_eq_true rfl) ⟨Nat.zero_le _, Nat.zero_le _⟩ dX4_strike_76 (congrArg (fun z => Value.int z :: [.ref nw]) (by decide : (s_X4_at 0 3) = 7)) rfl (fun H locs G => ?_)
      refine lv_dup2_11 hx hb dX4_strike_79 rfl rfl ?_
      refine k_iald (x := ((s_X4_record (upd (upd f 6 ((f 6) - bl)) 5 ((irem (f 5) 12) + 1)) 0 (-bl)) 7)) S G 1 0 rfl rfl (by unfold vp_in; decide) rfl dX4_strike_80 ?_
      refine lv_iload_n hx hb dX4_strike_81 rfl (lv_at hl 3 rfl) ?_
      refine lv_if_eq (tgt := 89) hx hb dX4_strike_82 (by decide) (fun c_10 => absurd c_10 c_7) (fun c_10 => ?_)
      refine lv_iconst (v := 0) hx hb dX4_strike_85 (by decide) ?_
      refine lv_goto (tgt := 90) hx hb dX4_strike_86 (by decide) ?_
      refine lv_iadd hx hb dX4_strike_90 ?_
      refine k_iast (ws1 := [(y, .inr (4, [.ref nw, .ref ad, .ref pa, .int sn, .ref eA, .long hs])), (nw, .inl (cI, 39, .inl (upd (s_X4_record (upd (upd f 6 ((f 6) - bl)) 5 ((irem (f 5) 12) + 1)) 0 (-bl)) 7 (((s_X4_record (upd (upd f 6 ((f 6) - bl)) 5 ((irem (f 5) 12) + 1)) 0 (-bl)) 7) + 0)))), (ad, .inl (cI, 39, .inl g)), (pa, .inl (cI, 195, .inl pf)), (eA, .inl (cI, 3, .inl z))]) S G 1 0 rfl rfl (by unfold vp_in; decide) dX4_strike_91 rfl (fun H locs G => ?_)
      refine lv_iload_n hx hb dX4_strike_92 rfl (lv_at hl 3 rfl) ?_
      refine lv_if_eq (tgt := 100) hx hb dX4_strike_93 (by decide) (fun c_11 => absurd c_11 c_7) (fun c_11 => ?_)
      refine lv_iconst (v := 0) hx hb dX4_strike_96 (by decide) ?_
      refine lv_goto (tgt := 101) hx hb dX4_strike_97 (by decide) ?_
      have es : (s_X4_strike_0 f bl lf) = (0, (upd (s_X4_record (upd (upd f 6 ((f 6) - bl)) 5 ((irem (f 5) 12) + 1)) 0 (-bl)) 7 (((s_X4_record (upd (upd f 6 ((f 6) - bl)) 5 ((irem (f 5) 12) + 1)) 0 (-bl)) 7) + 0))) := by rw [s_X4_strike_0, if_pos c_1, if_neg c_7]
      exact k_iret S G hr hlk dX4_strike_101 (by first | (rw [es]; done) | (rw [es]; rfl) | (simp only [es]; done) | (simp only [es]; rfl)) (by first | (rw [es]; done) | (rw [es]; rfl) | (simp only [es]; done) | (simp only [es]; rfl))
def s_X4_release_0 (f : Nat → Int32) (du : Int32) (lf : Int32) : Int32 × (Nat → Int32) := (if (s_X4_blowsOf_0 f du) ≤ (f 6) then (if (s_X4_blowsOf_0 f du) = 0 then (0, f) else ((s_X4_strike_0 f (s_X4_blowsOf_0 f du) lf).1, (s_X4_strike_0 f (s_X4_blowsOf_0 f du) lf).2)) else (0, (upd f 8 ((f 8) + 1))))
set_option maxHeartbeats 4000000 in
set_option maxRecDepth 100000 in
theorem c_X4_release_0 (l : Launch) (D : va_G) (cI cS : ClassId) (y : Nat) (nw : Nat) (ad : Nat) (pa : Nat) (eA : Nat) (sn : Int32) (hs : Int64) (f : Nat → Int32) (g : Nat → Int32) (pf : Nat → Int32) (z : Nat → Int32) (du : Int32) (lf : Int32) : Ct l yX4_release wsX4_release ({ frames := 2, cells := 0, slots := 0, locals := 46 }) D (tyL cI cS) [.ref y, .int 0, .int du, .int lf] [(y, .inr (4, [.ref nw, .ref ad, .ref pa, .int sn, .ref eA, .long hs])), (nw, .inl (cI, 39, .inl f)), (ad, .inl (cI, 39, .inl g)), (pa, .inl (cI, 195, .inl pf)), (eA, .inl (cI, 3, .inl z))] (some (.int ((s_X4_release_0 f du lf).1))) [(y, .inr (4, [.ref nw, .ref ad, .ref pa, .int sn, .ref eA, .long hs])), (nw, .inl (cI, 39, .inl ((s_X4_release_0 f du lf).2))), (ad, .inl (cI, 39, .inl g)), (pa, .inl (cI, 195, .inl pf)), (eA, .inl (cI, 3, .inl z))] := by
  refine Ct.of (cc := cX4_release) (maxL := 5) (ret := (some .int)) (by decide) rfl (Nat.le_of_ble_eq_true rfl) ?_
  intro p ev s m args below meth c A ls S hr hlk G hl
  have hx := S.1
  have hb := S.2.1
  have hown : s.vm.findClass RX4 = some m.cls := S.2.2.2.1
  have hts := S.2.2.2.2
  have hl : lv_has ls 5 [(0, .ref y), (1, .int 0), (2, .int du), (3, .int lf)] := hl
  have hiX4 : ∀ w ∈ wsX40, w ∈ wsX4_release := by decide +kernel
  have hf7 := hts (.fieldLink RX4 7 "StrikingWorkModel" "now" "[I") (by decide +kernel)
  refine lv_aload_n hx hb dX4_release_0 rfl (lv_at hl 0 rfl) ?_
  refine lv_iload_n hx hb dX4_release_1 rfl (lv_at hl 1 rfl) ?_
  refine lv_iload_n hx hb dX4_release_2 rfl (lv_at hl 2 rfl) ?_
  refine k_callV (n := 2) (As := [.int 0, .int du]) (rest := []) (st1 := [.int (s_X4_blowsOf_0 f du)]) (ws1 := [(y, .inr (4, [.ref nw, .ref ad, .ref pa, .int sn, .ref eA, .long hs])), (nw, .inl (cI, 39, .inl f)), (ad, .inl (cI, 39, .inl g)), (pa, .inl (cI, 195, .inl pf)), (eA, .inl (cI, 3, .inl z))]) S G (c_X4_blowsOf_0 l D cI cS y nw ad pa eA sn hs f g pf z du) gX4_release_X4_blowsOf rfl (by decide +kernel) ⟨⟨rfl, rfl⟩, Nat.le_of_ble_eq_true rfl, Nat.le_of_ble_eq_true rfl⟩ [0, 1, 2, 3, 4] (by decide) rfl [y, nw, ad, pa, eA] rfl rfl 0 rfl rfl rfl hl.1 rfl (Nat.le_of_ble_eq_true rfl) ⟨Nat.zero_le _, Nat.zero_le _⟩ dX4_release_3 rfl rfl (fun H locs G => ?_)
  refine lv_istore (lv' := [(4, .int (s_X4_blowsOf_0 f du)), (0, .ref y), (1, .int 0), (2, .int du), (3, .int lf)]) hx hb dX4_release_6 hl (by decide) rfl (fun ls hl => ?_)
  refine lv_aload_n hx hb dX4_release_8 rfl (lv_at hl 1 rfl) ?_
  refine k_get (v := .ref nw) S G 0 rfl rfl hiX4 0 (by decide) hf7 rfl dX4_release_9 ?_
  refine lv_iload_n hx hb dX4_release_12 rfl (lv_at hl 2 rfl) ?_
  refine lv_iconst (v := 2) hx hb dX4_release_13 (by decide) ?_
  refine k_callS (n := 2) (As := [.int 0, .int 2]) (rest := [.ref nw]) (st1 := [.int 6, .ref nw]) (ws1 := [(y, .inr (4, [.ref nw, .ref ad, .ref pa, .int sn, .ref eA, .long hs])), (nw, .inl (cI, 39, .inl f)), (ad, .inl (cI, 39, .inl g)), (pa, .inl (cI, 195, .inl pf)), (eA, .inl (cI, 3, .inl z))]) S G (c_X4_at l D cI cS 0 2) gX4_release_X4_at rfl (by decide +kernel) ⟨⟨rfl, rfl⟩, Nat.le_of_ble_eq_true rfl, Nat.le_of_ble_eq_true rfl⟩ [] (by decide) rfl [] rfl rfl rfl hl.1 rfl (Nat.le_of_ble_eq_true rfl) ⟨Nat.zero_le _, Nat.zero_le _⟩ dX4_release_14 (congrArg (fun z => Value.int z :: [.ref nw]) (by decide : (s_X4_at 0 2) = 6)) rfl (fun H locs G => ?_)
  refine k_iald (x := (f 6)) S G 1 0 rfl rfl (by unfold vp_in; decide) rfl dX4_release_17 ?_
  refine lv_iload hx hb dX4_release_18 (lv_at hl 0 rfl) ?_
  refine lv_icmp_ge (tgt := 39) hx hb dX4_release_20 (by decide) (fun c_1 => ?_) (fun c_1 => ?_)
  · skip
    refine lv_iload hx hb dX4_release_39 (lv_at hl 0 rfl) ?_
    refine lv_if_ne (tgt := 48) hx hb dX4_release_41 (by decide) (fun c_2 => ?_) (fun c_2 => ?_)
    · skip
      refine lv_aload_n hx hb dX4_release_48 rfl (lv_at hl 1 rfl) ?_
      refine lv_iload_n hx hb dX4_release_49 rfl (lv_at hl 2 rfl) ?_
      refine lv_iload hx hb dX4_release_50 (lv_at hl 0 rfl) ?_
      refine lv_iload_n hx hb dX4_release_52 rfl (lv_at hl 4 rfl) ?_
      refine k_callV (n := 3) (As := [.int 0, .int (s_X4_blowsOf_0 f du), .int lf]) (rest := []) (st1 := [.int ((s_X4_strike_0 f (s_X4_blowsOf_0 f du) lf).1)]) (ws1 := [(y, .inr (4, [.ref nw, .ref ad, .ref pa, .int sn, .ref eA, .long hs])), (nw, .inl (cI, 39, .inl ((s_X4_strike_0 f (s_X4_blowsOf_0 f du) lf).2))), (ad, .inl (cI, 39, .inl g)), (pa, .inl (cI, 195, .inl pf)), (eA, .inl (cI, 3, .inl z))]) S G (c_X4_strike_0 l D cI cS y nw ad pa eA sn hs f g pf z (s_X4_blowsOf_0 f du) lf) gX4_release_X4_strike rfl (by decide +kernel) ⟨⟨rfl, rfl⟩, Nat.le_of_ble_eq_true rfl, Nat.le_of_ble_eq_true rfl⟩ [0, 1, 2, 3, 4] (by decide) rfl [y, nw, ad, pa, eA] rfl rfl 0 rfl rfl rfl hl.1 rfl (Nat.le_of_ble_eq_true rfl) ⟨Nat.zero_le _, Nat.zero_le _⟩ dX4_release_53 rfl rfl (fun H locs G => ?_)
      generalize hu1 : (s_X4_strike_0 f (s_X4_blowsOf_0 f du) lf) = u1 at G ⊢
      have es : (s_X4_release_0 f du lf) = (u1.1, u1.2) := by rw [s_X4_release_0, hu1, if_pos c_1, if_neg c_2]
      exact k_iret S G hr hlk dX4_release_56 (by first | (rw [es]; done) | (rw [es]; rfl) | (simp only [es]; done) | (simp only [es]; rfl)) (by first | (rw [es]; done) | (rw [es]; rfl) | (simp only [es]; done) | (simp only [es]; rfl))
    · skip
      refine lv_iconst (v := 0) hx hb dX4_release_44 (by decide) ?_
      refine lv_goto (tgt := 56) hx hb dX4_release_45 (by decide) ?_
      have es : (s_X4_release_0 f du lf) = (0, f) := by rw [s_X4_release_0, if_pos c_1, if_pos c_2]
      exact k_iret S G hr hlk dX4_release_56 (by first | (rw [es]; done) | (rw [es]; rfl) | (simp only [es]; done) | (simp only [es]; rfl)) (by first | (rw [es]; done) | (rw [es]; rfl) | (simp only [es]; done) | (simp only [es]; rfl))
  · skip
    refine lv_aload_n hx hb dX4_release_23 rfl (lv_at hl 1 rfl) ?_
    refine k_get (v := .ref nw) S G 0 rfl rfl hiX4 0 (by decide) hf7 rfl dX4_release_24 ?_
    refine lv_iload_n hx hb dX4_release_27 rfl (lv_at hl 2 rfl) ?_
    refine lv_iconst (v := 4) hx hb dX4_release_28 (by decide) ?_
    refine k_callS (n := 2) (As := [.int 0, .int 4]) (rest := [.ref nw]) (st1 := [.int 8, .ref nw]) (ws1 := [(y, .inr (4, [.ref nw, .ref ad, .ref pa, .int sn, .ref eA, .long hs])), (nw, .inl (cI, 39, .inl f)), (ad, .inl (cI, 39, .inl g)), (pa, .inl (cI, 195, .inl pf)), (eA, .inl (cI, 3, .inl z))]) S G (c_X4_at l D cI cS 0 4) gX4_release_X4_at rfl (by decide +kernel) ⟨⟨rfl, rfl⟩, Nat.le_of_ble_eq_true rfl, Nat.le_of_ble_eq_true rfl⟩ [] (by decide) rfl [] rfl rfl rfl hl.1 rfl (Nat.le_of_ble_eq_true rfl) ⟨Nat.zero_le _, Nat.zero_le _⟩ dX4_release_29 (congrArg (fun z => Value.int z :: [.ref nw]) (by decide : (s_X4_at 0 4) = 8)) rfl (fun H locs G => ?_)
    refine lv_dup2_11 hx hb dX4_release_32 rfl rfl ?_
    refine k_iald (x := (f 8)) S G 1 0 rfl rfl (by unfold vp_in; decide) rfl dX4_release_33 ?_
    refine lv_iconst (v := 1) hx hb dX4_release_34 (by decide) ?_
    refine lv_iadd hx hb dX4_release_35 ?_
    refine k_iast (ws1 := [(y, .inr (4, [.ref nw, .ref ad, .ref pa, .int sn, .ref eA, .long hs])), (nw, .inl (cI, 39, .inl (upd f 8 ((f 8) + 1)))), (ad, .inl (cI, 39, .inl g)), (pa, .inl (cI, 195, .inl pf)), (eA, .inl (cI, 3, .inl z))]) S G 1 0 rfl rfl (by unfold vp_in; decide) dX4_release_36 rfl (fun H locs G => ?_)
    refine lv_iconst (v := 0) hx hb dX4_release_37 (by decide) ?_
    have es : (s_X4_release_0 f du lf) = (0, (upd f 8 ((f 8) + 1))) := by rw [s_X4_release_0, if_neg c_1]
    exact k_iret S G hr hlk dX4_release_38 (by first | (rw [es]; done) | (rw [es]; rfl) | (simp only [es]; done) | (simp only [es]; rfl)) (by first | (rw [es]; done) | (rw [es]; rfl) | (simp only [es]; done) | (simp only [es]; rfl))
def s_X4_lagAt_0 (f : Nat → Int32) (q : Int32) : Int32 := (if (f 4) = 1 then (irem (((s_X4_dueAfter_0 q) - (f 5)) + 12) 12) else 0)
set_option maxHeartbeats 4000000 in
set_option maxRecDepth 100000 in
theorem c_X4_lagAt_0 (l : Launch) (D : va_G) (cI cS : ClassId) (y : Nat) (nw : Nat) (ad : Nat) (pa : Nat) (eA : Nat) (sn : Int32) (hs : Int64) (f : Nat → Int32) (g : Nat → Int32) (pf : Nat → Int32) (z : Nat → Int32) (q : Int32) : Ct l yX4_lagAt wsX4_lagAt ({ frames := 2, cells := 0, slots := 0, locals := 43 }) D (tyL cI cS) [.ref y, .int 0, .int q] [(y, .inr (4, [.ref nw, .ref ad, .ref pa, .int sn, .ref eA, .long hs])), (nw, .inl (cI, 39, .inl f)), (ad, .inl (cI, 39, .inl g)), (pa, .inl (cI, 195, .inl pf)), (eA, .inl (cI, 3, .inl z))] (some (.int (s_X4_lagAt_0 f q))) [(y, .inr (4, [.ref nw, .ref ad, .ref pa, .int sn, .ref eA, .long hs])), (nw, .inl (cI, 39, .inl f)), (ad, .inl (cI, 39, .inl g)), (pa, .inl (cI, 195, .inl pf)), (eA, .inl (cI, 3, .inl z))] := by
  refine Ct.of (cc := cX4_lagAt) (maxL := 4) (ret := (some .int)) (by decide) rfl (Nat.le_of_ble_eq_true rfl) ?_
  intro p ev s m args below meth c A ls S hr hlk G hl
  have hx := S.1
  have hb := S.2.1
  have hown : s.vm.findClass RX4 = some m.cls := S.2.2.2.1
  have hts := S.2.2.2.2
  have hl : lv_has ls 4 [(0, .ref y), (1, .int 0), (2, .int q)] := hl
  have hiX4 : ∀ w ∈ wsX40, w ∈ wsX4_lagAt := by decide +kernel
  have hf7 := hts (.fieldLink RX4 7 "StrikingWorkModel" "now" "[I") (by decide +kernel)
  refine lv_aload_n hx hb dX4_lagAt_0 rfl (lv_at hl 0 rfl) ?_
  refine k_get (v := .ref nw) S G 0 rfl rfl hiX4 0 (by decide) hf7 rfl dX4_lagAt_1 ?_
  refine lv_iload_n hx hb dX4_lagAt_4 rfl (lv_at hl 1 rfl) ?_
  refine lv_iconst (v := 0) hx hb dX4_lagAt_5 (by decide) ?_
  refine k_callS (n := 2) (As := [.int 0, .int 0]) (rest := [.ref nw]) (st1 := [.int 4, .ref nw]) (ws1 := [(y, .inr (4, [.ref nw, .ref ad, .ref pa, .int sn, .ref eA, .long hs])), (nw, .inl (cI, 39, .inl f)), (ad, .inl (cI, 39, .inl g)), (pa, .inl (cI, 195, .inl pf)), (eA, .inl (cI, 3, .inl z))]) S G (c_X4_at l D cI cS 0 0) gX4_lagAt_X4_at rfl (by decide +kernel) ⟨⟨rfl, rfl⟩, Nat.le_of_ble_eq_true rfl, Nat.le_of_ble_eq_true rfl⟩ [] (by decide) rfl [] rfl rfl rfl hl.1 rfl (Nat.le_of_ble_eq_true rfl) ⟨Nat.zero_le _, Nat.zero_le _⟩ dX4_lagAt_6 (congrArg (fun z => Value.int z :: [.ref nw]) (by decide : (s_X4_at 0 0) = 4)) rfl (fun H locs G => ?_)
  refine k_iald (x := (f 4)) S G 1 0 rfl rfl (by unfold vp_in; decide) rfl dX4_lagAt_9 ?_
  refine lv_iconst (v := 1) hx hb dX4_lagAt_10 (by decide) ?_
  refine lv_icmp_eq (tgt := 16) hx hb dX4_lagAt_11 (by decide) (fun c_1 => ?_) (fun c_1 => ?_)
  · skip
    refine lv_iload_n hx hb dX4_lagAt_16 rfl (lv_at hl 1 rfl) ?_
    refine k_callS (n := 1) (As := [.int 0]) (rest := []) (st1 := [.int 12]) (ws1 := [(y, .inr (4, [.ref nw, .ref ad, .ref pa, .int sn, .ref eA, .long hs])), (nw, .inl (cI, 39, .inl f)), (ad, .inl (cI, 39, .inl g)), (pa, .inl (cI, 195, .inl pf)), (eA, .inl (cI, 3, .inl z))]) S G (c_X4_positions l D cI cS 0) gX4_lagAt_X4_positions rfl (by decide +kernel) ⟨⟨rfl, rfl⟩, Nat.le_of_ble_eq_true rfl, Nat.le_of_ble_eq_true rfl⟩ [] (by decide) rfl [] rfl rfl rfl hl.1 rfl (Nat.le_of_ble_eq_true rfl) ⟨Nat.zero_le _, Nat.zero_le _⟩ dX4_lagAt_17 (congrArg (fun z => Value.int z :: []) (by decide : (s_X4_positions 0) = 12)) rfl (fun H locs G => ?_)
    refine lv_istore_n (lv' := [(3, .int 12), (0, .ref y), (1, .int 0), (2, .int q)]) hx hb dX4_lagAt_20 rfl hl (by decide) rfl (fun ls hl => ?_)
    refine lv_iload_n hx hb dX4_lagAt_21 rfl (lv_at hl 2 rfl) ?_
    refine lv_iload_n hx hb dX4_lagAt_22 rfl (lv_at hl 3 rfl) ?_
    refine k_callS (n := 2) (As := [.int 0, .int q]) (rest := []) (st1 := [.int (s_X4_dueAfter_0 q)]) (ws1 := [(y, .inr (4, [.ref nw, .ref ad, .ref pa, .int sn, .ref eA, .long hs])), (nw, .inl (cI, 39, .inl f)), (ad, .inl (cI, 39, .inl g)), (pa, .inl (cI, 195, .inl pf)), (eA, .inl (cI, 3, .inl z))]) S G (c_X4_dueAfter_0 l D cI cS q) gX4_lagAt_X4_dueAfter rfl (by decide +kernel) ⟨⟨rfl, rfl⟩, Nat.le_of_ble_eq_true rfl, Nat.le_of_ble_eq_true rfl⟩ [] (by decide) rfl [] rfl rfl rfl hl.1 rfl (Nat.le_of_ble_eq_true rfl) ⟨Nat.zero_le _, Nat.zero_le _⟩ dX4_lagAt_23 rfl rfl (fun H locs G => ?_)
    refine lv_aload_n hx hb dX4_lagAt_26 rfl (lv_at hl 1 rfl) ?_
    refine k_get (v := .ref nw) S G 0 rfl rfl hiX4 0 (by decide) hf7 rfl dX4_lagAt_27 ?_
    refine lv_iload_n hx hb dX4_lagAt_30 rfl (lv_at hl 2 rfl) ?_
    refine lv_iconst (v := 1) hx hb dX4_lagAt_31 (by decide) ?_
    refine k_callS (n := 2) (As := [.int 0, .int 1]) (rest := [.ref nw, .int (s_X4_dueAfter_0 q)]) (st1 := [.int 5, .ref nw, .int (s_X4_dueAfter_0 q)]) (ws1 := [(y, .inr (4, [.ref nw, .ref ad, .ref pa, .int sn, .ref eA, .long hs])), (nw, .inl (cI, 39, .inl f)), (ad, .inl (cI, 39, .inl g)), (pa, .inl (cI, 195, .inl pf)), (eA, .inl (cI, 3, .inl z))]) S G (c_X4_at l D cI cS 0 1) gX4_lagAt_X4_at rfl (by decide +kernel) ⟨⟨rfl, rfl⟩, Nat.le_of_ble_eq_true rfl, Nat.le_of_ble_eq_true rfl⟩ [] (by decide) rfl [] rfl rfl rfl hl.1 rfl (Nat.le_of_ble_eq_true rfl) ⟨Nat.zero_le _, Nat.zero_le _⟩ dX4_lagAt_32 (congrArg (fun z => Value.int z :: [.ref nw, .int (s_X4_dueAfter_0 q)]) (by decide : (s_X4_at 0 1) = 5)) rfl (fun H locs G => ?_)
    refine k_iald (x := (f 5)) S G 1 0 rfl rfl (by unfold vp_in; decide) rfl dX4_lagAt_35 ?_
    refine lv_isub hx hb dX4_lagAt_36 ?_
    refine lv_iload_n hx hb dX4_lagAt_37 rfl (lv_at hl 0 rfl) ?_
    refine lv_iadd hx hb dX4_lagAt_38 ?_
    refine lv_iload_n hx hb dX4_lagAt_39 rfl (lv_at hl 0 rfl) ?_
    refine lv_irem hx hb dX4_lagAt_40 (by decide) ?_
    refine lv_lit (v := (irem (((s_X4_dueAfter_0 q) - (f 5)) + 12) 12)) rfl ?_
    have es : (s_X4_lagAt_0 f q) = (irem (((s_X4_dueAfter_0 q) - (f 5)) + 12) 12) := by rw [s_X4_lagAt_0, if_pos c_1]
    exact k_iret S G hr hlk dX4_lagAt_41 (by first | (rw [es]; done) | (rw [es]; rfl) | (simp only [es]; done) | (simp only [es]; rfl)) rfl
  · skip
    refine lv_iconst (v := 0) hx hb dX4_lagAt_14 (by decide) ?_
    have es : (s_X4_lagAt_0 f q) = 0 := by rw [s_X4_lagAt_0, if_neg c_1]
    exact k_iret S G hr hlk dX4_lagAt_15 (by first | (rw [es]; done) | (rw [es]; rfl) | (simp only [es]; done) | (simp only [es]; rfl)) rfl
def s_X4_blowsOf_1 (f : Nat → Int32) (du : Int32) : Int32 := (if (f 9) = 0 then 0 else (if (f 9) = 1 then (f 10) else du))
set_option maxHeartbeats 4000000 in
set_option maxRecDepth 100000 in
theorem c_X4_blowsOf_1 (l : Launch) (D : va_G) (cI cS : ClassId) (y : Nat) (nw : Nat) (ad : Nat) (pa : Nat) (eA : Nat) (sn : Int32) (hs : Int64) (f : Nat → Int32) (g : Nat → Int32) (pf : Nat → Int32) (z : Nat → Int32) (du : Int32) : Ct l yX4_blowsOf wsX4_blowsOf ({ frames := 1, cells := 0, slots := 0, locals := 21 }) D (tyL cI cS) [.ref y, .int 1, .int du] [(y, .inr (4, [.ref nw, .ref ad, .ref pa, .int sn, .ref eA, .long hs])), (nw, .inl (cI, 39, .inl f)), (ad, .inl (cI, 39, .inl g)), (pa, .inl (cI, 195, .inl pf)), (eA, .inl (cI, 3, .inl z))] (some (.int (s_X4_blowsOf_1 f du))) [(y, .inr (4, [.ref nw, .ref ad, .ref pa, .int sn, .ref eA, .long hs])), (nw, .inl (cI, 39, .inl f)), (ad, .inl (cI, 39, .inl g)), (pa, .inl (cI, 195, .inl pf)), (eA, .inl (cI, 3, .inl z))] := by
  refine Ct.of (cc := cX4_blowsOf) (maxL := 4) (ret := (some .int)) (by decide) rfl (Nat.le_of_ble_eq_true rfl) ?_
  intro p ev s m args below meth c A ls S hr hlk G hl
  have hx := S.1
  have hb := S.2.1
  have hown : s.vm.findClass RX4 = some m.cls := S.2.2.2.1
  have hts := S.2.2.2.2
  have hl : lv_has ls 4 [(0, .ref y), (1, .int 1), (2, .int du)] := hl
  have hiX4 : ∀ w ∈ wsX40, w ∈ wsX4_blowsOf := by decide +kernel
  have hf7 := hts (.fieldLink RX4 7 "StrikingWorkModel" "now" "[I") (by decide +kernel)
  refine lv_aload_n hx hb dX4_blowsOf_0 rfl (lv_at hl 0 rfl) ?_
  refine k_get (v := .ref nw) S G 0 rfl rfl hiX4 0 (by decide) hf7 rfl dX4_blowsOf_1 ?_
  refine lv_iload_n hx hb dX4_blowsOf_4 rfl (lv_at hl 1 rfl) ?_
  refine lv_iconst (v := 0) hx hb dX4_blowsOf_5 (by decide) ?_
  refine k_callS (n := 2) (As := [.int 1, .int 0]) (rest := [.ref nw]) (st1 := [.int 9, .ref nw]) (ws1 := [(y, .inr (4, [.ref nw, .ref ad, .ref pa, .int sn, .ref eA, .long hs])), (nw, .inl (cI, 39, .inl f)), (ad, .inl (cI, 39, .inl g)), (pa, .inl (cI, 195, .inl pf)), (eA, .inl (cI, 3, .inl z))]) S G (c_X4_at l D cI cS 1 0) gX4_blowsOf_X4_at rfl (by decide +kernel) ⟨⟨rfl, rfl⟩, Nat.le_of_ble_eq_true rfl, Nat.le_of_ble_eq_true rfl⟩ [] (by decide) rfl [] rfl rfl rfl hl.1 rfl (Nat.le_of_ble_eq_true rfl) ⟨Nat.zero_le _, Nat.zero_le _⟩ dX4_blowsOf_6 (congrArg (fun z => Value.int z :: [.ref nw]) (by decide : (s_X4_at 1 0) = 9)) rfl (fun H locs G => ?_)
  refine k_iald (x := (f 9)) S G 1 0 rfl rfl (by unfold vp_in; decide) rfl dX4_blowsOf_9 ?_
  refine lv_istore_n (lv' := [(3, .int (f 9)), (0, .ref y), (1, .int 1), (2, .int du)]) hx hb dX4_blowsOf_10 rfl hl (by decide) rfl (fun ls hl => ?_)
  refine lv_iload_n hx hb dX4_blowsOf_11 rfl (lv_at hl 0 rfl) ?_
  refine lv_if_ne (tgt := 19) hx hb dX4_blowsOf_12 (by decide) (fun c_1 => ?_) (fun c_1 => ?_)
  · skip
    refine lv_iload_n hx hb dX4_blowsOf_19 rfl (lv_at hl 0 rfl) ?_
    refine lv_iconst (v := 1) hx hb dX4_blowsOf_20 (by decide) ?_
    refine lv_icmp_ne (tgt := 37) hx hb dX4_blowsOf_21 (by decide) (fun c_2 => ?_) (fun c_2 => ?_)
    · skip
      refine lv_iload_n hx hb dX4_blowsOf_37 rfl (lv_at hl 3 rfl) ?_
      have es : (s_X4_blowsOf_1 f du) = du := by rw [s_X4_blowsOf_1, if_neg c_1, if_neg c_2]
      exact k_iret S G hr hlk dX4_blowsOf_38 (by first | (rw [es]; done) | (rw [es]; rfl) | (simp only [es]; done) | (simp only [es]; rfl)) rfl
    · skip
      refine lv_aload_n hx hb dX4_blowsOf_24 rfl (lv_at hl 1 rfl) ?_
      refine k_get (v := .ref nw) S G 0 rfl rfl hiX4 0 (by decide) hf7 rfl dX4_blowsOf_25 ?_
      refine lv_iload_n hx hb dX4_blowsOf_28 rfl (lv_at hl 2 rfl) ?_
      refine lv_iconst (v := 1) hx hb dX4_blowsOf_29 (by decide) ?_
      refine k_callS (n := 2) (As := [.int 1, .int 1]) (rest := [.ref nw]) (st1 := [.int 10, .ref nw]) (ws1 := [(y, .inr (4, [.ref nw, .ref ad, .ref pa, .int sn, .ref eA, .long hs])), (nw, .inl (cI, 39, .inl f)), (ad, .inl (cI, 39, .inl g)), (pa, .inl (cI, 195, .inl pf)), (eA, .inl (cI, 3, .inl z))]) S G (c_X4_at l D cI cS 1 1) gX4_blowsOf_X4_at rfl (by decide +kernel) ⟨⟨rfl, rfl⟩, Nat.le_of_ble_eq_true rfl, Nat.le_of_ble_eq_true rfl⟩ [] (by decide) rfl [] rfl rfl rfl hl.1 rfl (Nat.le_of_ble_eq_true rfl) ⟨Nat.zero_le _, Nat.zero_le _⟩ dX4_blowsOf_30 (congrArg (fun z => Value.int z :: [.ref nw]) (by decide : (s_X4_at 1 1) = 10)) rfl (fun H locs G => ?_)
      refine k_iald (x := (f 10)) S G 1 0 rfl rfl (by unfold vp_in; decide) rfl dX4_blowsOf_33 ?_
      refine lv_goto (tgt := 38) hx hb dX4_blowsOf_34 (by decide) ?_
      have es : (s_X4_blowsOf_1 f du) = (f 10) := by rw [s_X4_blowsOf_1, if_neg c_1, if_pos c_2]
      exact k_iret S G hr hlk dX4_blowsOf_38 (by first | (rw [es]; done) | (rw [es]; rfl) | (simp only [es]; done) | (simp only [es]; rfl)) rfl
  · skip
    refine lv_iconst (v := 0) hx hb dX4_blowsOf_15 (by decide) ?_
    refine lv_goto (tgt := 38) hx hb dX4_blowsOf_16 (by decide) ?_
    have es : (s_X4_blowsOf_1 f du) = 0 := by rw [s_X4_blowsOf_1, if_pos c_1]
    exact k_iret S G hr hlk dX4_blowsOf_38 (by first | (rw [es]; done) | (rw [es]; rfl) | (simp only [es]; done) | (simp only [es]; rfl)) rfl
def s_X4_strike_1 (f : Nat → Int32) (bl : Int32) (lf : Int32) : Int32 × (Nat → Int32) := (if (f 9) = 1 then (if lf = 0 then (bl, (upd (s_X4_record (upd (upd f 11 ((f 11) - bl)) 10 ((irem (f 10) 4) + 1)) 1 bl) 12 (((s_X4_record (upd (upd f 11 ((f 11) - bl)) 10 ((irem (f 10) 4) + 1)) 1 bl) 12) + bl))) else (0, (upd (s_X4_record (upd (upd f 11 ((f 11) - bl)) 10 ((irem (f 10) 4) + 1)) 1 (-bl)) 12 (((s_X4_record (upd (upd f 11 ((f 11) - bl)) 10 ((irem (f 10) 4) + 1)) 1 (-bl)) 12) + 0)))) else (if lf = 0 then (bl, (upd (s_X4_record (upd f 11 ((f 11) - bl)) 1 bl) 12 (((s_X4_record (upd f 11 ((f 11) - bl)) 1 bl) 12) + bl))) else (0, (upd (s_X4_record (upd f 11 ((f 11) - bl)) 1 (-bl)) 12 (((s_X4_record (upd f 11 ((f 11) - bl)) 1 (-bl)) 12) + 0)))))
set_option maxHeartbeats 4000000 in
set_option maxRecDepth 100000 in
theorem c_X4_strike_1 (l : Launch) (D : va_G) (cI cS : ClassId) (y : Nat) (nw : Nat) (ad : Nat) (pa : Nat) (eA : Nat) (sn : Int32) (hs : Int64) (f : Nat → Int32) (g : Nat → Int32) (pf : Nat → Int32) (z : Nat → Int32) (bl : Int32) (lf : Int32) : Ct l yX4_strike wsX4_strike ({ frames := 1, cells := 0, slots := 0, locals := 23 }) D (tyL cI cS) [.ref y, .int 1, .int bl, .int lf] [(y, .inr (4, [.ref nw, .ref ad, .ref pa, .int sn, .ref eA, .long hs])), (nw, .inl (cI, 39, .inl f)), (ad, .inl (cI, 39, .inl g)), (pa, .inl (cI, 195, .inl pf)), (eA, .inl (cI, 3, .inl z))] (some (.int ((s_X4_strike_1 f bl lf).1))) [(y, .inr (4, [.ref nw, .ref ad, .ref pa, .int sn, .ref eA, .long hs])), (nw, .inl (cI, 39, .inl ((s_X4_strike_1 f bl lf).2))), (ad, .inl (cI, 39, .inl g)), (pa, .inl (cI, 195, .inl pf)), (eA, .inl (cI, 3, .inl z))] := by
  refine Ct.of (cc := cX4_strike) (maxL := 4) (ret := (some .int)) (by decide) rfl (Nat.le_of_ble_eq_true rfl) ?_
  intro p ev s m args below meth c A ls S hr hlk G hl
  have hx := S.1
  have hb := S.2.1
  have hown : s.vm.findClass RX4 = some m.cls := S.2.2.2.1
  have hts := S.2.2.2.2
  have hl : lv_has ls 4 [(0, .ref y), (1, .int 1), (2, .int bl), (3, .int lf)] := hl
  have hiX4 : ∀ w ∈ wsX40, w ∈ wsX4_strike := by decide +kernel
  have hf7 := hts (.fieldLink RX4 7 "StrikingWorkModel" "now" "[I") (by decide +kernel)
  refine lv_aload_n hx hb dX4_strike_0 rfl (lv_at hl 0 rfl) ?_
  refine k_get (v := .ref nw) S G 0 rfl rfl hiX4 0 (by decide) hf7 rfl dX4_strike_1 ?_
  refine lv_iload_n hx hb dX4_strike_4 rfl (lv_at hl 1 rfl) ?_
  refine lv_iconst (v := 2) hx hb dX4_strike_5 (by decide) ?_
  refine k_callS (n := 2) (As := [.int 1, .int 2]) (rest := [.ref nw]) (st1 := [.int 11, .ref nw]) (ws1 := [(y, .inr (4, [.ref nw, .ref ad, .ref pa, .int sn, .ref eA, .long hs])), (nw, .inl (cI, 39, .inl f)), (ad, .inl (cI, 39, .inl g)), (pa, .inl (cI, 195, .inl pf)), (eA, .inl (cI, 3, .inl z))]) S G (c_X4_at l D cI cS 1 2) gX4_strike_X4_at rfl (by decide +kernel) ⟨⟨rfl, rfl⟩, Nat.le_of_ble_eq_true rfl, Nat.le_of_ble_eq_true rfl⟩ [] (by decide) rfl [] rfl rfl rfl hl.1 rfl (Nat.le_of_ble_eq_true rfl) ⟨Nat.zero_le _, Nat.zero_le _⟩ dX4_strike_6 (congrArg (fun z => Value.int z :: [.ref nw]) (by decide : (s_X4_at 1 2) = 11)) rfl (fun H locs G => ?_)
  refine lv_dup2_11 hx hb dX4_strike_9 rfl rfl ?_
  refine k_iald (x := (f 11)) S G 1 0 rfl rfl (by unfold vp_in; decide) rfl dX4_strike_10 ?_
  refine lv_iload_n hx hb dX4_strike_11 rfl (lv_at hl 2 rfl) ?_
  refine lv_isub hx hb dX4_strike_12 ?_
  refine k_iast (ws1 := [(y, .inr (4, [.ref nw, .ref ad, .ref pa, .int sn, .ref eA, .long hs])), (nw, .inl (cI, 39, .inl (upd f 11 ((f 11) - bl)))), (ad, .inl (cI, 39, .inl g)), (pa, .inl (cI, 195, .inl pf)), (eA, .inl (cI, 3, .inl z))]) S G 1 0 rfl rfl (by unfold vp_in; decide) dX4_strike_13 rfl (fun H locs G => ?_)
  refine lv_aload_n hx hb dX4_strike_14 rfl (lv_at hl 0 rfl) ?_
  refine k_get (v := .ref nw) S G 0 rfl rfl hiX4 0 (by decide) hf7 rfl dX4_strike_15 ?_
  refine lv_iload_n hx hb dX4_strike_18 rfl (lv_at hl 1 rfl) ?_
  refine lv_iconst (v := 0) hx hb dX4_strike_19 (by decide) ?_
  refine k_callS (n := 2) (As := [.int 1, .int 0]) (rest := [.ref nw]) (st1 := [.int 9, .ref nw]) (ws1 := [(y, .inr (4, [.ref nw, .ref ad, .ref pa, .int sn, .ref eA, .long hs])), (nw, .inl (cI, 39, .inl (upd f 11 ((f 11) - bl)))), (ad, .inl (cI, 39, .inl g)), (pa, .inl (cI, 195, .inl pf)), (eA, .inl (cI, 3, .inl z))]) S G (c_X4_at l D cI cS 1 0) gX4_strike_X4_at rfl (by decide +kernel) ⟨⟨rfl, rfl⟩, Nat.le_of_ble_eq_true rfl, Nat.le_of_ble_eq_true rfl⟩ [] (by decide) rfl [] rfl rfl rfl hl.1 rfl (Nat.le_of_ble_eq_true rfl) ⟨Nat.zero_le _, Nat.zero_le _⟩ dX4_strike_20 (congrArg (fun z => Value.int z :: [.ref nw]) (by decide : (s_X4_at 1 0) = 9)) rfl (fun H locs G => ?_)
  refine k_iald (x := (f 9)) S G 1 0 rfl rfl (by unfold vp_in; decide) rfl dX4_strike_23 ?_
  refine lv_iconst (v := 1) hx hb dX4_strike_24 (by decide) ?_
  refine lv_icmp_ne (tgt := 55) hx hb dX4_strike_25 (by decide) (fun c_1 => ?_) (fun c_1 => ?_)
  · skip
    refine lv_aload_n hx hb dX4_strike_55 rfl (lv_at hl 0 rfl) ?_
    refine lv_iload_n hx hb dX4_strike_56 rfl (lv_at hl 1 rfl) ?_
    refine lv_iload_n hx hb dX4_strike_57 rfl (lv_at hl 3 rfl) ?_
    refine lv_if_eq (tgt := 66) hx hb dX4_strike_58 (by decide) (fun c_2 => ?_) (fun c_2 => ?_)
    · skip
      refine lv_iload_n hx hb dX4_strike_66 rfl (lv_at hl 2 rfl) ?_
      refine k_callV (n := 2) (As := [.int 1, .int bl]) (rest := []) (st1 := []) (ws1 := [(y, .inr (4, [.ref nw, .ref ad, .ref pa, .int sn, .ref eA, .long hs])), (nw, .inl (cI, 39, .inl (s_X4_record (upd f 11 ((f 11) - bl)) 1 bl))), (ad, .inl (cI, 39, .inl g)), (pa, .inl (cI, 195, .inl pf)), (eA, .inl (cI, 3, .inl z))]) S G (c_X4_record l D cI cS y nw ad pa eA sn hs (upd f 11 ((f 11) - bl)) g pf z 1 bl) gX4_strike_X4_record rfl (by decide +kernel) ⟨⟨rfl, rfl⟩, Nat.le_of_ble_eq_true rfl, Nat.le_of_ble_eq_true rfl⟩ [0, 1, 2, 3, 4] (by decide) rfl [y, nw, ad, pa, eA] rfl rfl 0 rfl rfl rfl hl.1 rfl (Nat.le_of_ble_eq_true rfl) ⟨Nat.zero_le _, Nat.zero_le _⟩ dX4_strike_67 rfl rfl (fun H locs G => ?_)
      refine lv_aload_n hx hb dX4_strike_70 rfl (lv_at hl 0 rfl) ?_
      refine k_get (v := .ref nw) S G 0 rfl rfl hiX4 0 (by decide) hf7 rfl dX4_strike_71 ?_
      refine lv_iload_n hx hb dX4_strike_74 rfl (lv_at hl 1 rfl) ?_
      refine lv_iconst (v := 3) hx hb dX4_strike_75 (by decide) ?_
      refine k_callS (n := 2) (As := [.int 1, .int 3]) (rest := [.ref nw]) (st1 := [.int 12, .ref nw]) (ws1 := [(y, .inr (4, [.ref nw, .ref ad, .ref pa, .int sn, .ref eA, .long hs])), (nw, .inl (cI, 39, .inl (s_X4_record (upd f 11 ((f 11) - bl)) 1 bl))), (ad, .inl (cI, 39, .inl g)), (pa, .inl (cI, 195, .inl pf)), (eA, .inl (cI, 3, .inl z))]) S G (c_X4_at l D cI cS 1 3) gX4_strike_X4_at rfl (by decide +kernel) ⟨⟨rfl, rfl⟩, Nat.le_of_ble_eq_true rfl, Nat.le_of_ble_eq_true rfl⟩ [] (by decide) rfl [] rfl rfl rfl hl.1 rfl (Nat.le_of_ble_eq_true rfl) ⟨Nat.zero_le _, Nat.zero_le _⟩ dX4_strike_76 (congrArg (fun z => Value.int z :: [.ref nw]) (by decide : (s_X4_at 1 3) = 12)) rfl (fun H locs G => ?_)
      refine lv_dup2_11 hx hb dX4_strike_79 rfl rfl ?_
      refine k_iald (x := ((s_X4_record (upd f 11 ((f 11) - bl)) 1 bl) 12)) S G 1 0 rfl rfl (by unfold vp_in; decide) rfl dX4_strike_80 ?_
      refine lv_iload_n hx hb dX4_strike_81 rfl (lv_at hl 3 rfl) ?_
      refine lv_if_eq (tgt := 89) hx hb dX4_strike_82 (by decide) (fun c_3 => ?_) (fun c_3 => absurd c_2 c_3)
      refine lv_iload_n hx hb dX4_strike_89 rfl (lv_at hl 2 rfl) ?_
      refine lv_iadd hx hb dX4_strike_90 ?_
      refine k_iast (ws1 := [(y, .inr (4, [.ref nw, .ref ad, .ref pa, .int sn, .ref eA, .long hs])), (nw, .inl (cI, 39, .inl (upd (s_X4_record (upd f 11 ((f 11) - bl)) 1 bl) 12 (((s_X4_record (upd f 11 ((f 11) - bl)) 1 bl) 12) + bl)))), (ad, .inl (cI, 39, .inl g)), (pa, .inl (cI, 195, .inl pf)), (eA, .inl (cI, 3, .inl z))]) S G 1 0 rfl rfl (by unfold vp_in; decide) dX4_strike_91 rfl (fun H locs G => ?_)
      refine lv_iload_n hx hb dX4_strike_92 rfl (lv_at hl 3 rfl) ?_
      refine lv_if_eq (tgt := 100) hx hb dX4_strike_93 (by decide) (fun c_4 => ?_) (fun c_4 => absurd c_2 c_4)
      refine lv_iload_n hx hb dX4_strike_100 rfl (lv_at hl 2 rfl) ?_
      have es : (s_X4_strike_1 f bl lf) = (bl, (upd (s_X4_record (upd f 11 ((f 11) - bl)) 1 bl) 12 (((s_X4_record (upd f 11 ((f 11) - bl)) 1 bl) 12) + bl))) := by rw [s_X4_strike_1, if_neg c_1, if_pos c_2]
      exact k_iret S G hr hlk dX4_strike_101 (by first | (rw [es]; done) | (rw [es]; rfl) | (simp only [es]; done) | (simp only [es]; rfl)) (by first | (rw [es]; done) | (rw [es]; rfl) | (simp only [es]; done) | (simp only [es]; rfl))
    · skip
      refine lv_iload_n hx hb dX4_strike_61 rfl (lv_at hl 2 rfl) ?_
      refine lv_ineg hx hb dX4_strike_62 ?_
      refine lv_goto (tgt := 67) hx hb dX4_strike_63 (by decide) ?_
      refine k_callV (n := 2) (As := [.int 1, .int (-bl)]) (rest := []) (st1 := []) (ws1 := [(y, .inr (4, [.ref nw, .ref ad, .ref pa, .int sn, .ref eA, .long hs])), (nw, .inl (cI, 39, .inl (s_X4_record (upd f 11 ((f 11) - bl)) 1 (-bl)))), (ad, .inl (cI, 39, .inl g)), (pa, .inl (cI, 195, .inl pf)), (eA, .inl (cI, 3, .inl z))]) S G (c_X4_record l D cI cS y nw ad pa eA sn hs (upd f 11 ((f 11) - bl)) g pf z 1 (-bl)) gX4_strike_X4_record rfl (by decide +kernel) ⟨⟨rfl, rfl⟩, Nat.le_of_ble_eq_true rfl, Nat.le_of_ble_eq_true rfl⟩ [0, 1, 2, 3, 4] (by decide) rfl [y, nw, ad, pa, eA] rfl rfl 0 rfl rfl rfl hl.1 rfl (Nat.le_of_ble_eq_true rfl) ⟨Nat.zero_le _, Nat.zero_le _⟩ dX4_strike_67 rfl rfl (fun H locs G => ?_)
      refine lv_aload_n hx hb dX4_strike_70 rfl (lv_at hl 0 rfl) ?_
      refine k_get (v := .ref nw) S G 0 rfl rfl hiX4 0 (by decide) hf7 rfl dX4_strike_71 ?_
      refine lv_iload_n hx hb dX4_strike_74 rfl (lv_at hl 1 rfl) ?_
      refine lv_iconst (v := 3) hx hb dX4_strike_75 (by decide) ?_
      refine k_callS (n := 2) (As := [.int 1, .int 3]) (rest := [.ref nw]) (st1 := [.int 12, .ref nw]) (ws1 := [(y, .inr (4, [.ref nw, .ref ad, .ref pa, .int sn, .ref eA, .long hs])), (nw, .inl (cI, 39, .inl (s_X4_record (upd f 11 ((f 11) - bl)) 1 (-bl)))), (ad, .inl (cI, 39, .inl g)), (pa, .inl (cI, 195, .inl pf)), (eA, .inl (cI, 3, .inl z))]) S G (c_X4_at l D cI cS 1 3) gX4_strike_X4_at rfl (by decide +kernel) ⟨⟨rfl, rfl⟩, Nat.le_of_ble_eq_true rfl, Nat.le_of_ble_eq_true rfl⟩ [] (by decide) rfl [] rfl rfl rfl hl.1 rfl (Nat.le_of_ble_eq_true rfl) ⟨Nat.zero_le _, Nat.zero_le _⟩ dX4_strike_76 (congrArg (fun z => Value.int z :: [.ref nw]) (by decide : (s_X4_at 1 3) = 12)) rfl (fun H locs G => ?_)
      refine lv_dup2_11 hx hb dX4_strike_79 rfl rfl ?_
      refine k_iald (x := ((s_X4_record (upd f 11 ((f 11) - bl)) 1 (-bl)) 12)) S G 1 0 rfl rfl (by unfold vp_in; decide) rfl dX4_strike_80 ?_
      refine lv_iload_n hx hb dX4_strike_81 rfl (lv_at hl 3 rfl) ?_
      refine lv_if_eq (tgt := 89) hx hb dX4_strike_82 (by decide) (fun c_5 => absurd c_5 c_2) (fun c_5 => ?_)
      refine lv_iconst (v := 0) hx hb dX4_strike_85 (by decide) ?_
      refine lv_goto (tgt := 90) hx hb dX4_strike_86 (by decide) ?_
      refine lv_iadd hx hb dX4_strike_90 ?_
      refine k_iast (ws1 := [(y, .inr (4, [.ref nw, .ref ad, .ref pa, .int sn, .ref eA, .long hs])), (nw, .inl (cI, 39, .inl (upd (s_X4_record (upd f 11 ((f 11) - bl)) 1 (-bl)) 12 (((s_X4_record (upd f 11 ((f 11) - bl)) 1 (-bl)) 12) + 0)))), (ad, .inl (cI, 39, .inl g)), (pa, .inl (cI, 195, .inl pf)), (eA, .inl (cI, 3, .inl z))]) S G 1 0 rfl rfl (by unfold vp_in; decide) dX4_strike_91 rfl (fun H locs G => ?_)
      refine lv_iload_n hx hb dX4_strike_92 rfl (lv_at hl 3 rfl) ?_
      refine lv_if_eq (tgt := 100) hx hb dX4_strike_93 (by decide) (fun c_6 => absurd c_6 c_2) (fun c_6 => ?_)
      refine lv_iconst (v := 0) hx hb dX4_strike_96 (by decide) ?_
      refine lv_goto (tgt := 101) hx hb dX4_strike_97 (by decide) ?_
      have es : (s_X4_strike_1 f bl lf) = (0, (upd (s_X4_record (upd f 11 ((f 11) - bl)) 1 (-bl)) 12 (((s_X4_record (upd f 11 ((f 11) - bl)) 1 (-bl)) 12) + 0))) := by rw [s_X4_strike_1, if_neg c_1, if_neg c_2]
      exact k_iret S G hr hlk dX4_strike_101 (by first | (rw [es]; done) | (rw [es]; rfl) | (simp only [es]; done) | (simp only [es]; rfl)) (by first | (rw [es]; done) | (rw [es]; rfl) | (simp only [es]; done) | (simp only [es]; rfl))
  · skip
    refine lv_aload_n hx hb dX4_strike_28 rfl (lv_at hl 0 rfl) ?_
    refine k_get (v := .ref nw) S G 0 rfl rfl hiX4 0 (by decide) hf7 rfl dX4_strike_29 ?_
    refine lv_iload_n hx hb dX4_strike_32 rfl (lv_at hl 1 rfl) ?_
    refine lv_iconst (v := 1) hx hb dX4_strike_33 (by decide) ?_
    refine k_callS (n := 2) (As := [.int 1, .int 1]) (rest := [.ref nw]) (st1 := [.int 10, .ref nw]) (ws1 := [(y, .inr (4, [.ref nw, .ref ad, .ref pa, .int sn, .ref eA, .long hs])), (nw, .inl (cI, 39, .inl (upd f 11 ((f 11) - bl)))), (ad, .inl (cI, 39, .inl g)), (pa, .inl (cI, 195, .inl pf)), (eA, .inl (cI, 3, .inl z))]) S G (c_X4_at l D cI cS 1 1) gX4_strike_X4_at rfl (by decide +kernel) ⟨⟨rfl, rfl⟩, Nat.le_of_ble_eq_true rfl, Nat.le_of_ble_eq_true rfl⟩ [] (by decide) rfl [] rfl rfl rfl hl.1 rfl (Nat.le_of_ble_eq_true rfl) ⟨Nat.zero_le _, Nat.zero_le _⟩ dX4_strike_34 (congrArg (fun z => Value.int z :: [.ref nw]) (by decide : (s_X4_at 1 1) = 10)) rfl (fun H locs G => ?_)
    refine lv_aload_n hx hb dX4_strike_37 rfl (lv_at hl 0 rfl) ?_
    refine k_get (v := .ref nw) S G 0 rfl rfl hiX4 0 (by decide) hf7 rfl dX4_strike_38 ?_
    refine lv_iload_n hx hb dX4_strike_41 rfl (lv_at hl 1 rfl) ?_
    refine lv_iconst (v := 1) hx hb dX4_strike_42 (by decide) ?_
    refine k_callS (n := 2) (As := [.int 1, .int 1]) (rest := [.ref nw, .int 10, .ref nw]) (st1 := [.int 10, .ref nw, .int 10, .ref nw]) (ws1 := [(y, .inr (4, [.ref nw, .ref ad, .ref pa, .int sn, .ref eA, .long hs])), (nw, .inl (cI, 39, .inl (upd f 11 ((f 11) - bl)))), (ad, .inl (cI, 39, .inl g)), (pa, .inl (cI, 195, .inl pf)), (eA, .inl (cI, 3, .inl z))]) S G (c_X4_at l D cI cS 1 1) gX4_strike_X4_at rfl (by decide +kernel) ⟨⟨rfl, rfl⟩, Nat.le_of_ble_eq_true rfl, Nat.le_of_ble_eq_true rfl⟩ [] (by decide) rfl [] rfl rfl rfl hl.1 rfl (Nat.le_of_ble_eq_true rfl) ⟨Nat.zero_le _, Nat.zero_le _⟩ dX4_strike_43 (congrArg (fun z => Value.int z :: [.ref nw, .int 10, .ref nw]) (by decide : (s_X4_at 1 1) = 10)) rfl (fun H locs G => ?_)
    refine k_iald (x := (f 10)) S G 1 0 rfl rfl (by unfold vp_in; decide) rfl dX4_strike_46 ?_
    refine lv_iload_n hx hb dX4_strike_47 rfl (lv_at hl 1 rfl) ?_
    refine k_callS (n := 1) (As := [.int 1]) (rest := [.int (f 10), .int 10, .ref nw]) (st1 := [.int 4, .int (f 10), .int 10, .ref nw]) (ws1 := [(y, .inr (4, [.ref nw, .ref ad, .ref pa, .int sn, .ref eA, .long hs])), (nw, .inl (cI, 39, .inl (upd f 11 ((f 11) - bl)))), (ad, .inl (cI, 39, .inl g)), (pa, .inl (cI, 195, .inl pf)), (eA, .inl (cI, 3, .inl z))]) S G (c_X4_positions l D cI cS 1) gX4_strike_X4_positions rfl (by decide +kernel) ⟨⟨rfl, rfl⟩, Nat.le_of_ble_eq_true rfl, Nat.le_of_ble_eq_true rfl⟩ [] (by decide) rfl [] rfl rfl rfl hl.1 rfl (Nat.le_of_ble_eq_true rfl) ⟨Nat.zero_le _, Nat.zero_le _⟩ dX4_strike_48 (congrArg (fun z => Value.int z :: [.int (f 10), .int 10, .ref nw]) (by decide : (s_X4_positions 1) = 4)) rfl (fun H locs G => ?_)
    refine lv_irem hx hb dX4_strike_51 (by decide) ?_
    refine lv_lit (v := (irem (f 10) 4)) rfl ?_
    refine lv_iconst (v := 1) hx hb dX4_strike_52 (by decide) ?_
    refine lv_iadd hx hb dX4_strike_53 ?_
    refine k_iast (ws1 := [(y, .inr (4, [.ref nw, .ref ad, .ref pa, .int sn, .ref eA, .long hs])), (nw, .inl (cI, 39, .inl (upd (upd f 11 ((f 11) - bl)) 10 ((irem (f 10) 4) + 1)))), (ad, .inl (cI, 39, .inl g)), (pa, .inl (cI, 195, .inl pf)), (eA, .inl (cI, 3, .inl z))]) S G 1 0 rfl rfl (by unfold vp_in; decide) dX4_strike_54 rfl (fun H locs G => ?_)
    refine lv_aload_n hx hb dX4_strike_55 rfl (lv_at hl 0 rfl) ?_
    refine lv_iload_n hx hb dX4_strike_56 rfl (lv_at hl 1 rfl) ?_
    refine lv_iload_n hx hb dX4_strike_57 rfl (lv_at hl 3 rfl) ?_
    refine lv_if_eq (tgt := 66) hx hb dX4_strike_58 (by decide) (fun c_7 => ?_) (fun c_7 => ?_)
    · skip
      refine lv_iload_n hx hb dX4_strike_66 rfl (lv_at hl 2 rfl) ?_
      refine k_callV (n := 2) (As := [.int 1, .int bl]) (rest := []) (st1 := []) (ws1 := [(y, .inr (4, [.ref nw, .ref ad, .ref pa, .int sn, .ref eA, .long hs])), (nw, .inl (cI, 39, .inl (s_X4_record (upd (upd f 11 ((f 11) - bl)) 10 ((irem (f 10) 4) + 1)) 1 bl))), (ad, .inl (cI, 39, .inl g)), (pa, .inl (cI, 195, .inl pf)), (eA, .inl (cI, 3, .inl z))]) S G (c_X4_record l D cI cS y nw ad pa eA sn hs (upd (upd f 11 ((f 11) - bl)) 10 ((irem (f 10) 4) + 1)) g pf z 1 bl) gX4_strike_X4_record rfl (by decide +kernel) ⟨⟨rfl, rfl⟩, Nat.le_of_ble_eq_true rfl, Nat.le_of_ble_eq_true rfl⟩ [0, 1, 2, 3, 4] (by decide) rfl [y, nw, ad, pa, eA] rfl rfl 0 rfl rfl rfl hl.1 rfl (Nat.le_of_ble_eq_true rfl) ⟨Nat.zero_le _, Nat.zero_le _⟩ dX4_strike_67 rfl rfl (fun H locs G => ?_)
      refine lv_aload_n hx hb dX4_strike_70 rfl (lv_at hl 0 rfl) ?_
      refine k_get (v := .ref nw) S G 0 rfl rfl hiX4 0 (by decide) hf7 rfl dX4_strike_71 ?_
      refine lv_iload_n hx hb dX4_strike_74 rfl (lv_at hl 1 rfl) ?_
      refine lv_iconst (v := 3) hx hb dX4_strike_75 (by decide) ?_
      refine k_callS (n := 2) (As := [.int 1, .int 3]) (rest := [.ref nw]) (st1 := [.int 12, .ref nw]) (ws1 := [(y, .inr (4, [.ref nw, .ref ad, .ref pa, .int sn, .ref eA, .long hs])), (nw, .inl (cI, 39, .inl (s_X4_record (upd (upd f 11 ((f 11) - bl)) 10 ((irem (f 10) 4) + 1)) 1 bl))), (ad, .inl (cI, 39, .inl g)), (pa, .inl (cI, 195, .inl pf)), (eA, .inl (cI, 3, .inl z))]) S G (c_X4_at l D cI cS 1 3) gX4_strike_X4_at rfl (by decide +kernel) ⟨⟨rfl, rfl⟩, Nat.le_of_ble_eq_true rfl, Nat.le_of_ble_eq_true rfl⟩ [] (by decide) rfl [] rfl rfl rfl hl.1 rfl (Nat.le_of_ble_eq_true rfl) ⟨Nat.zero_le _, Nat.zero_le _⟩ dX4_strike_76 (congrArg (fun z => Value.int z :: [.ref nw]) (by decide : (s_X4_at 1 3) = 12)) rfl (fun H locs G => ?_)
      refine lv_dup2_11 hx hb dX4_strike_79 rfl rfl ?_
      refine k_iald (x := ((s_X4_record (upd (upd f 11 ((f 11) - bl)) 10 ((irem (f 10) 4) + 1)) 1 bl) 12)) S G 1 0 rfl rfl (by unfold vp_in; decide) rfl dX4_strike_80 ?_
      refine lv_iload_n hx hb dX4_strike_81 rfl (lv_at hl 3 rfl) ?_
      refine lv_if_eq (tgt := 89) hx hb dX4_strike_82 (by decide) (fun c_8 => ?_) (fun c_8 => absurd c_7 c_8)
      refine lv_iload_n hx hb dX4_strike_89 rfl (lv_at hl 2 rfl) ?_
      refine lv_iadd hx hb dX4_strike_90 ?_
      refine k_iast (ws1 := [(y, .inr (4, [.ref nw, .ref ad, .ref pa, .int sn, .ref eA, .long hs])), (nw, .inl (cI, 39, .inl (upd (s_X4_record (upd (upd f 11 ((f 11) - bl)) 10 ((irem (f 10) 4) + 1)) 1 bl) 12 (((s_X4_record (upd (upd f 11 ((f 11) - bl)) 10 ((irem (f 10) 4) + 1)) 1 bl) 12) + bl)))), (ad, .inl (cI, 39, .inl g)), (pa, .inl (cI, 195, .inl pf)), (eA, .inl (cI, 3, .inl z))]) S G 1 0 rfl rfl (by unfold vp_in; decide) dX4_strike_91 rfl (fun H locs G => ?_)
      refine lv_iload_n hx hb dX4_strike_92 rfl (lv_at hl 3 rfl) ?_
      refine lv_if_eq (tgt := 100) hx hb dX4_strike_93 (by decide) (fun c_9 => ?_) (fun c_9 => absurd c_7 c_9)
      refine lv_iload_n hx hb dX4_strike_100 rfl (lv_at hl 2 rfl) ?_
      have es : (s_X4_strike_1 f bl lf) = (bl, (upd (s_X4_record (upd (upd f 11 ((f 11) - bl)) 10 ((irem (f 10) 4) + 1)) 1 bl) 12 (((s_X4_record (upd (upd f 11 ((f 11) - bl)) 10 ((irem (f 10) 4) + 1)) 1 bl) 12) + bl))) := by rw [s_X4_strike_1, if_pos c_1, if_pos c_7]
      exact k_iret S G hr hlk dX4_strike_101 (by first | (rw [es]; done) | (rw [es]; rfl) | (simp only [es]; done) | (simp only [es]; rfl)) (by first | (rw [es]; done) | (rw [es]; rfl) | (simp only [es]; done) | (simp only [es]; rfl))
    · skip
      refine lv_iload_n hx hb dX4_strike_61 rfl (lv_at hl 2 rfl) ?_
      refine lv_ineg hx hb dX4_strike_62 ?_
      refine lv_goto (tgt := 67) hx hb dX4_strike_63 (by decide) ?_
      refine k_callV (n := 2) (As := [.int 1, .int (-bl)]) (rest := []) (st1 := []) (ws1 := [(y, .inr (4, [.ref nw, .ref ad, .ref pa, .int sn, .ref eA, .long hs])), (nw, .inl (cI, 39, .inl (s_X4_record (upd (upd f 11 ((f 11) - bl)) 10 ((irem (f 10) 4) + 1)) 1 (-bl)))), (ad, .inl (cI, 39, .inl g)), (pa, .inl (cI, 195, .inl pf)), (eA, .inl (cI, 3, .inl z))]) S G (c_X4_record l D cI cS y nw ad pa eA sn hs (upd (upd f 11 ((f 11) - bl)) 10 ((irem (f 10) 4) + 1)) g pf z 1 (-bl)) gX4_strike_X4_record rfl (by decide +kernel) ⟨⟨rfl, rfl⟩, Nat.le_of_ble_eq_true rfl, Nat.le_of_ble_eq_true rfl⟩ [0, 1, 2, 3, 4] (by decide) rfl [y, nw, ad, pa, eA] rfl rfl 0 rfl rfl rfl hl.1 rfl (Nat.le_of_ble_eq_true rfl) ⟨Nat.zero_le _, Nat.zero_le _⟩ dX4_strike_67 rfl rfl (fun H locs G => ?_)
      refine lv_aload_n hx hb dX4_strike_70 rfl (lv_at hl 0 rfl) ?_
      refine k_get (v := .ref nw) S G 0 rfl rfl hiX4 0 (by decide) hf7 rfl dX4_strike_71 ?_
      refine lv_iload_n hx hb dX4_strike_74 rfl (lv_at hl 1 rfl) ?_
      refine lv_iconst (v := 3) hx hb dX4_strike_75 (by decide) ?_
      refine k_callS (n := 2) (As := [.int 1, .int 3]) (rest := [.ref nw]) (st1 := [.int 12, .ref nw]) (ws1 := [(y, .inr (4, [.ref nw, .ref ad, .ref pa, .int sn, .ref eA, .long hs])), (nw, .inl (cI, 39, .inl (s_X4_record (upd (upd f 11 ((f 11) - bl)) 10 ((irem (f 10) 4) + 1)) 1 (-bl)))), (ad, .inl (cI, 39, .inl g)), (pa, .inl (cI, 195, .inl pf)), (eA, .inl (cI, 3, .inl z))]) S G (c_X4_at l D cI cS 1 3) gX4_strike_X4_at rfl (by decide +kernel) ⟨⟨rfl, rfl⟩, Nat.le_of_ble_eq_true rfl, Nat.le_of_ble_eq_true rfl⟩ [] (by decide) rfl [] rfl rfl rfl hl.1 rfl (Nat.le_of_ble_eq_true rfl) ⟨Nat.zero_le _, Nat.zero_le _⟩ dX4_strike_76 (congrArg (fun z => Value.int z :: [.ref nw]) (by decide : (s_X4_at 1 3) = 12)) rfl (fun H locs G => ?_)
      refine lv_dup2_11 hx hb dX4_strike_79 rfl rfl ?_
      refine k_iald (x := ((s_X4_record (upd (upd f 11 ((f 11) - bl)) 10 ((irem (f 10) 4) + 1)) 1 (-bl)) 12)) S G 1 0 rfl rfl (by unfold vp_in; decide) rfl dX4_strike_80 ?_
      refine lv_iload_n hx hb dX4_strike_81 rfl (lv_at hl 3 rfl) ?_
      refine lv_if_eq (tgt := 89) hx hb dX4_strike_82 (by decide) (fun c_10 => absurd c_10 c_7) (fun c_10 => ?_)
      refine lv_iconst (v := 0) hx hb dX4_strike_85 (by decide) ?_
      refine lv_goto (tgt := 90) hx hb dX4_strike_86 (by decide) ?_
      refine lv_iadd hx hb dX4_strike_90 ?_
      refine k_iast (ws1 := [(y, .inr (4, [.ref nw, .ref ad, .ref pa, .int sn, .ref eA, .long hs])), (nw, .inl (cI, 39, .inl (upd (s_X4_record (upd (upd f 11 ((f 11) - bl)) 10 ((irem (f 10) 4) + 1)) 1 (-bl)) 12 (((s_X4_record (upd (upd f 11 ((f 11) - bl)) 10 ((irem (f 10) 4) + 1)) 1 (-bl)) 12) + 0)))), (ad, .inl (cI, 39, .inl g)), (pa, .inl (cI, 195, .inl pf)), (eA, .inl (cI, 3, .inl z))]) S G 1 0 rfl rfl (by unfold vp_in; decide) dX4_strike_91 rfl (fun H locs G => ?_)
      refine lv_iload_n hx hb dX4_strike_92 rfl (lv_at hl 3 rfl) ?_
      refine lv_if_eq (tgt := 100) hx hb dX4_strike_93 (by decide) (fun c_11 => absurd c_11 c_7) (fun c_11 => ?_)
      refine lv_iconst (v := 0) hx hb dX4_strike_96 (by decide) ?_
      refine lv_goto (tgt := 101) hx hb dX4_strike_97 (by decide) ?_
      have es : (s_X4_strike_1 f bl lf) = (0, (upd (s_X4_record (upd (upd f 11 ((f 11) - bl)) 10 ((irem (f 10) 4) + 1)) 1 (-bl)) 12 (((s_X4_record (upd (upd f 11 ((f 11) - bl)) 10 ((irem (f 10) 4) + 1)) 1 (-bl)) 12) + 0))) := by rw [s_X4_strike_1, if_pos c_1, if_neg c_7]
      exact k_iret S G hr hlk dX4_strike_101 (by first | (rw [es]; done) | (rw [es]; rfl) | (simp only [es]; done) | (simp only [es]; rfl)) (by first | (rw [es]; done) | (rw [es]; rfl) | (simp only [es]; done) | (simp only [es]; rfl))
def s_X4_release_1 (f : Nat → Int32) (du : Int32) (lf : Int32) : Int32 × (Nat → Int32) := (if (s_X4_blowsOf_1 f du) ≤ (f 11) then (if (s_X4_blowsOf_1 f du) = 0 then (0, f) else ((s_X4_strike_1 f (s_X4_blowsOf_1 f du) lf).1, (s_X4_strike_1 f (s_X4_blowsOf_1 f du) lf).2)) else (0, (upd f 13 ((f 13) + 1))))
set_option maxHeartbeats 4000000 in
set_option maxRecDepth 100000 in
theorem c_X4_release_1 (l : Launch) (D : va_G) (cI cS : ClassId) (y : Nat) (nw : Nat) (ad : Nat) (pa : Nat) (eA : Nat) (sn : Int32) (hs : Int64) (f : Nat → Int32) (g : Nat → Int32) (pf : Nat → Int32) (z : Nat → Int32) (du : Int32) (lf : Int32) : Ct l yX4_release wsX4_release ({ frames := 2, cells := 0, slots := 0, locals := 46 }) D (tyL cI cS) [.ref y, .int 1, .int du, .int lf] [(y, .inr (4, [.ref nw, .ref ad, .ref pa, .int sn, .ref eA, .long hs])), (nw, .inl (cI, 39, .inl f)), (ad, .inl (cI, 39, .inl g)), (pa, .inl (cI, 195, .inl pf)), (eA, .inl (cI, 3, .inl z))] (some (.int ((s_X4_release_1 f du lf).1))) [(y, .inr (4, [.ref nw, .ref ad, .ref pa, .int sn, .ref eA, .long hs])), (nw, .inl (cI, 39, .inl ((s_X4_release_1 f du lf).2))), (ad, .inl (cI, 39, .inl g)), (pa, .inl (cI, 195, .inl pf)), (eA, .inl (cI, 3, .inl z))] := by
  refine Ct.of (cc := cX4_release) (maxL := 5) (ret := (some .int)) (by decide) rfl (Nat.le_of_ble_eq_true rfl) ?_
  intro p ev s m args below meth c A ls S hr hlk G hl
  have hx := S.1
  have hb := S.2.1
  have hown : s.vm.findClass RX4 = some m.cls := S.2.2.2.1
  have hts := S.2.2.2.2
  have hl : lv_has ls 5 [(0, .ref y), (1, .int 1), (2, .int du), (3, .int lf)] := hl
  have hiX4 : ∀ w ∈ wsX40, w ∈ wsX4_release := by decide +kernel
  have hf7 := hts (.fieldLink RX4 7 "StrikingWorkModel" "now" "[I") (by decide +kernel)
  refine lv_aload_n hx hb dX4_release_0 rfl (lv_at hl 0 rfl) ?_
  refine lv_iload_n hx hb dX4_release_1 rfl (lv_at hl 1 rfl) ?_
  refine lv_iload_n hx hb dX4_release_2 rfl (lv_at hl 2 rfl) ?_
  refine k_callV (n := 2) (As := [.int 1, .int du]) (rest := []) (st1 := [.int (s_X4_blowsOf_1 f du)]) (ws1 := [(y, .inr (4, [.ref nw, .ref ad, .ref pa, .int sn, .ref eA, .long hs])), (nw, .inl (cI, 39, .inl f)), (ad, .inl (cI, 39, .inl g)), (pa, .inl (cI, 195, .inl pf)), (eA, .inl (cI, 3, .inl z))]) S G (c_X4_blowsOf_1 l D cI cS y nw ad pa eA sn hs f g pf z du) gX4_release_X4_blowsOf rfl (by decide +kernel) ⟨⟨rfl, rfl⟩, Nat.le_of_ble_eq_true rfl, Nat.le_of_ble_eq_true rfl⟩ [0, 1, 2, 3, 4] (by decide) rfl [y, nw, ad, pa, eA] rfl rfl 0 rfl rfl rfl hl.1 rfl (Nat.le_of_ble_eq_true rfl) ⟨Nat.zero_le _, Nat.zero_le _⟩ dX4_release_3 rfl rfl (fun H locs G => ?_)
  refine lv_istore (lv' := [(4, .int (s_X4_blowsOf_1 f du)), (0, .ref y), (1, .int 1), (2, .int du), (3, .int lf)]) hx hb dX4_release_6 hl (by decide) rfl (fun ls hl => ?_)
  refine lv_aload_n hx hb dX4_release_8 rfl (lv_at hl 1 rfl) ?_
  refine k_get (v := .ref nw) S G 0 rfl rfl hiX4 0 (by decide) hf7 rfl dX4_release_9 ?_
  refine lv_iload_n hx hb dX4_release_12 rfl (lv_at hl 2 rfl) ?_
  refine lv_iconst (v := 2) hx hb dX4_release_13 (by decide) ?_
  refine k_callS (n := 2) (As := [.int 1, .int 2]) (rest := [.ref nw]) (st1 := [.int 11, .ref nw]) (ws1 := [(y, .inr (4, [.ref nw, .ref ad, .ref pa, .int sn, .ref eA, .long hs])), (nw, .inl (cI, 39, .inl f)), (ad, .inl (cI, 39, .inl g)), (pa, .inl (cI, 195, .inl pf)), (eA, .inl (cI, 3, .inl z))]) S G (c_X4_at l D cI cS 1 2) gX4_release_X4_at rfl (by decide +kernel) ⟨⟨rfl, rfl⟩, Nat.le_of_ble_eq_true rfl, Nat.le_of_ble_eq_true rfl⟩ [] (by decide) rfl [] rfl rfl rfl hl.1 rfl (Nat.le_of_ble_eq_true rfl) ⟨Nat.zero_le _, Nat.zero_le _⟩ dX4_release_14 (congrArg (fun z => Value.int z :: [.ref nw]) (by decide : (s_X4_at 1 2) = 11)) rfl (fun H locs G => ?_)
  refine k_iald (x := (f 11)) S G 1 0 rfl rfl (by unfold vp_in; decide) rfl dX4_release_17 ?_
  refine lv_iload hx hb dX4_release_18 (lv_at hl 0 rfl) ?_
  refine lv_icmp_ge (tgt := 39) hx hb dX4_release_20 (by decide) (fun c_1 => ?_) (fun c_1 => ?_)
  · skip
    refine lv_iload hx hb dX4_release_39 (lv_at hl 0 rfl) ?_
    refine lv_if_ne (tgt := 48) hx hb dX4_release_41 (by decide) (fun c_2 => ?_) (fun c_2 => ?_)
    · skip
      refine lv_aload_n hx hb dX4_release_48 rfl (lv_at hl 1 rfl) ?_
      refine lv_iload_n hx hb dX4_release_49 rfl (lv_at hl 2 rfl) ?_
      refine lv_iload hx hb dX4_release_50 (lv_at hl 0 rfl) ?_
      refine lv_iload_n hx hb dX4_release_52 rfl (lv_at hl 4 rfl) ?_
      refine k_callV (n := 3) (As := [.int 1, .int (s_X4_blowsOf_1 f du), .int lf]) (rest := []) (st1 := [.int ((s_X4_strike_1 f (s_X4_blowsOf_1 f du) lf).1)]) (ws1 := [(y, .inr (4, [.ref nw, .ref ad, .ref pa, .int sn, .ref eA, .long hs])), (nw, .inl (cI, 39, .inl ((s_X4_strike_1 f (s_X4_blowsOf_1 f du) lf).2))), (ad, .inl (cI, 39, .inl g)), (pa, .inl (cI, 195, .inl pf)), (eA, .inl (cI, 3, .inl z))]) S G (c_X4_strike_1 l D cI cS y nw ad pa eA sn hs f g pf z (s_X4_blowsOf_1 f du) lf) gX4_release_X4_strike rfl (by decide +kernel) ⟨⟨rfl, rfl⟩, Nat.le_of_ble_eq_true rfl, Nat.le_of_ble_eq_true rfl⟩ [0, 1, 2, 3, 4] (by decide) rfl [y, nw, ad, pa, eA] rfl rfl 0 rfl rfl rfl hl.1 rfl (Nat.le_of_ble_eq_true rfl) ⟨Nat.zero_le _, Nat.zero_le _⟩ dX4_release_53 rfl rfl (fun H locs G => ?_)
      generalize hu1 : (s_X4_strike_1 f (s_X4_blowsOf_1 f du) lf) = u1 at G ⊢
      have es : (s_X4_release_1 f du lf) = (u1.1, u1.2) := by rw [s_X4_release_1, hu1, if_pos c_1, if_neg c_2]
      exact k_iret S G hr hlk dX4_release_56 (by first | (rw [es]; done) | (rw [es]; rfl) | (simp only [es]; done) | (simp only [es]; rfl)) (by first | (rw [es]; done) | (rw [es]; rfl) | (simp only [es]; done) | (simp only [es]; rfl))
    · skip
      refine lv_iconst (v := 0) hx hb dX4_release_44 (by decide) ?_
      refine lv_goto (tgt := 56) hx hb dX4_release_45 (by decide) ?_
      have es : (s_X4_release_1 f du lf) = (0, f) := by rw [s_X4_release_1, if_pos c_1, if_pos c_2]
      exact k_iret S G hr hlk dX4_release_56 (by first | (rw [es]; done) | (rw [es]; rfl) | (simp only [es]; done) | (simp only [es]; rfl)) (by first | (rw [es]; done) | (rw [es]; rfl) | (simp only [es]; done) | (simp only [es]; rfl))
  · skip
    refine lv_aload_n hx hb dX4_release_23 rfl (lv_at hl 1 rfl) ?_
    refine k_get (v := .ref nw) S G 0 rfl rfl hiX4 0 (by decide) hf7 rfl dX4_release_24 ?_
    refine lv_iload_n hx hb dX4_release_27 rfl (lv_at hl 2 rfl) ?_
    refine lv_iconst (v := 4) hx hb dX4_release_28 (by decide) ?_
    refine k_callS (n := 2) (As := [.int 1, .int 4]) (rest := [.ref nw]) (st1 := [.int 13, .ref nw]) (ws1 := [(y, .inr (4, [.ref nw, .ref ad, .ref pa, .int sn, .ref eA, .long hs])), (nw, .inl (cI, 39, .inl f)), (ad, .inl (cI, 39, .inl g)), (pa, .inl (cI, 195, .inl pf)), (eA, .inl (cI, 3, .inl z))]) S G (c_X4_at l D cI cS 1 4) gX4_release_X4_at rfl (by decide +kernel) ⟨⟨rfl, rfl⟩, Nat.le_of_ble_eq_true rfl, Nat.le_of_ble_eq_true rfl⟩ [] (by decide) rfl [] rfl rfl rfl hl.1 rfl (Nat.le_of_ble_eq_true rfl) ⟨Nat.zero_le _, Nat.zero_le _⟩ dX4_release_29 (congrArg (fun z => Value.int z :: [.ref nw]) (by decide : (s_X4_at 1 4) = 13)) rfl (fun H locs G => ?_)
    refine lv_dup2_11 hx hb dX4_release_32 rfl rfl ?_
    refine k_iald (x := (f 13)) S G 1 0 rfl rfl (by unfold vp_in; decide) rfl dX4_release_33 ?_
    refine lv_iconst (v := 1) hx hb dX4_release_34 (by decide) ?_
    refine lv_iadd hx hb dX4_release_35 ?_
    refine k_iast (ws1 := [(y, .inr (4, [.ref nw, .ref ad, .ref pa, .int sn, .ref eA, .long hs])), (nw, .inl (cI, 39, .inl (upd f 13 ((f 13) + 1)))), (ad, .inl (cI, 39, .inl g)), (pa, .inl (cI, 195, .inl pf)), (eA, .inl (cI, 3, .inl z))]) S G 1 0 rfl rfl (by unfold vp_in; decide) dX4_release_36 rfl (fun H locs G => ?_)
    refine lv_iconst (v := 0) hx hb dX4_release_37 (by decide) ?_
    have es : (s_X4_release_1 f du lf) = (0, (upd f 13 ((f 13) + 1))) := by rw [s_X4_release_1, if_neg c_1]
    exact k_iret S G hr hlk dX4_release_38 (by first | (rw [es]; done) | (rw [es]; rfl) | (simp only [es]; done) | (simp only [es]; rfl)) (by first | (rw [es]; done) | (rw [es]; rfl) | (simp only [es]; done) | (simp only [es]; rfl))
def s_X4_lagAt_1 (f : Nat → Int32) (q : Int32) : Int32 := (if (f 9) = 1 then (irem (((s_X4_dueAfter_1 q) - (f 10)) + 4) 4) else 0)
set_option maxHeartbeats 4000000 in
set_option maxRecDepth 100000 in
theorem c_X4_lagAt_1 (l : Launch) (D : va_G) (cI cS : ClassId) (y : Nat) (nw : Nat) (ad : Nat) (pa : Nat) (eA : Nat) (sn : Int32) (hs : Int64) (f : Nat → Int32) (g : Nat → Int32) (pf : Nat → Int32) (z : Nat → Int32) (q : Int32) : Ct l yX4_lagAt wsX4_lagAt ({ frames := 2, cells := 0, slots := 0, locals := 43 }) D (tyL cI cS) [.ref y, .int 1, .int q] [(y, .inr (4, [.ref nw, .ref ad, .ref pa, .int sn, .ref eA, .long hs])), (nw, .inl (cI, 39, .inl f)), (ad, .inl (cI, 39, .inl g)), (pa, .inl (cI, 195, .inl pf)), (eA, .inl (cI, 3, .inl z))] (some (.int (s_X4_lagAt_1 f q))) [(y, .inr (4, [.ref nw, .ref ad, .ref pa, .int sn, .ref eA, .long hs])), (nw, .inl (cI, 39, .inl f)), (ad, .inl (cI, 39, .inl g)), (pa, .inl (cI, 195, .inl pf)), (eA, .inl (cI, 3, .inl z))] := by
  refine Ct.of (cc := cX4_lagAt) (maxL := 4) (ret := (some .int)) (by decide) rfl (Nat.le_of_ble_eq_true rfl) ?_
  intro p ev s m args below meth c A ls S hr hlk G hl
  have hx := S.1
  have hb := S.2.1
  have hown : s.vm.findClass RX4 = some m.cls := S.2.2.2.1
  have hts := S.2.2.2.2
  have hl : lv_has ls 4 [(0, .ref y), (1, .int 1), (2, .int q)] := hl
  have hiX4 : ∀ w ∈ wsX40, w ∈ wsX4_lagAt := by decide +kernel
  have hf7 := hts (.fieldLink RX4 7 "StrikingWorkModel" "now" "[I") (by decide +kernel)
  refine lv_aload_n hx hb dX4_lagAt_0 rfl (lv_at hl 0 rfl) ?_
  refine k_get (v := .ref nw) S G 0 rfl rfl hiX4 0 (by decide) hf7 rfl dX4_lagAt_1 ?_
  refine lv_iload_n hx hb dX4_lagAt_4 rfl (lv_at hl 1 rfl) ?_
  refine lv_iconst (v := 0) hx hb dX4_lagAt_5 (by decide) ?_
  refine k_callS (n := 2) (As := [.int 1, .int 0]) (rest := [.ref nw]) (st1 := [.int 9, .ref nw]) (ws1 := [(y, .inr (4, [.ref nw, .ref ad, .ref pa, .int sn, .ref eA, .long hs])), (nw, .inl (cI, 39, .inl f)), (ad, .inl (cI, 39, .inl g)), (pa, .inl (cI, 195, .inl pf)), (eA, .inl (cI, 3, .inl z))]) S G (c_X4_at l D cI cS 1 0) gX4_lagAt_X4_at rfl (by decide +kernel) ⟨⟨rfl, rfl⟩, Nat.le_of_ble_eq_true rfl, Nat.le_of_ble_eq_true rfl⟩ [] (by decide) rfl [] rfl rfl rfl hl.1 rfl (Nat.le_of_ble_eq_true rfl) ⟨Nat.zero_le _, Nat.zero_le _⟩ dX4_lagAt_6 (congrArg (fun z => Value.int z :: [.ref nw]) (by decide : (s_X4_at 1 0) = 9)) rfl (fun H locs G => ?_)
  refine k_iald (x := (f 9)) S G 1 0 rfl rfl (by unfold vp_in; decide) rfl dX4_lagAt_9 ?_
  refine lv_iconst (v := 1) hx hb dX4_lagAt_10 (by decide) ?_
  refine lv_icmp_eq (tgt := 16) hx hb dX4_lagAt_11 (by decide) (fun c_1 => ?_) (fun c_1 => ?_)
  · skip
    refine lv_iload_n hx hb dX4_lagAt_16 rfl (lv_at hl 1 rfl) ?_
    refine k_callS (n := 1) (As := [.int 1]) (rest := []) (st1 := [.int 4]) (ws1 := [(y, .inr (4, [.ref nw, .ref ad, .ref pa, .int sn, .ref eA, .long hs])), (nw, .inl (cI, 39, .inl f)), (ad, .inl (cI, 39, .inl g)), (pa, .inl (cI, 195, .inl pf)), (eA, .inl (cI, 3, .inl z))]) S G (c_X4_positions l D cI cS 1) gX4_lagAt_X4_positions rfl (by decide +kernel) ⟨⟨rfl, rfl⟩, Nat.le_of_ble_eq_true rfl, Nat.le_of_ble_eq_true rfl⟩ [] (by decide) rfl [] rfl rfl rfl hl.1 rfl (Nat.le_of_ble_eq_true rfl) ⟨Nat.zero_le _, Nat.zero_le _⟩ dX4_lagAt_17 (congrArg (fun z => Value.int z :: []) (by decide : (s_X4_positions 1) = 4)) rfl (fun H locs G => ?_)
    refine lv_istore_n (lv' := [(3, .int 4), (0, .ref y), (1, .int 1), (2, .int q)]) hx hb dX4_lagAt_20 rfl hl (by decide) rfl (fun ls hl => ?_)
    refine lv_iload_n hx hb dX4_lagAt_21 rfl (lv_at hl 2 rfl) ?_
    refine lv_iload_n hx hb dX4_lagAt_22 rfl (lv_at hl 3 rfl) ?_
    refine k_callS (n := 2) (As := [.int 1, .int q]) (rest := []) (st1 := [.int (s_X4_dueAfter_1 q)]) (ws1 := [(y, .inr (4, [.ref nw, .ref ad, .ref pa, .int sn, .ref eA, .long hs])), (nw, .inl (cI, 39, .inl f)), (ad, .inl (cI, 39, .inl g)), (pa, .inl (cI, 195, .inl pf)), (eA, .inl (cI, 3, .inl z))]) S G (c_X4_dueAfter_1 l D cI cS q) gX4_lagAt_X4_dueAfter rfl (by decide +kernel) ⟨⟨rfl, rfl⟩, Nat.le_of_ble_eq_true rfl, Nat.le_of_ble_eq_true rfl⟩ [] (by decide) rfl [] rfl rfl rfl hl.1 rfl (Nat.le_of_ble_eq_true rfl) ⟨Nat.zero_le _, Nat.zero_le _⟩ dX4_lagAt_23 rfl rfl (fun H locs G => ?_)
    refine lv_aload_n hx hb dX4_lagAt_26 rfl (lv_at hl 1 rfl) ?_
    refine k_get (v := .ref nw) S G 0 rfl rfl hiX4 0 (by decide) hf7 rfl dX4_lagAt_27 ?_
    refine lv_iload_n hx hb dX4_lagAt_30 rfl (lv_at hl 2 rfl) ?_
    refine lv_iconst (v := 1) hx hb dX4_lagAt_31 (by decide) ?_
    refine k_callS (n := 2) (As := [.int 1, .int 1]) (rest := [.ref nw, .int (s_X4_dueAfter_1 q)]) (st1 := [.int 10, .ref nw, .int (s_X4_dueAfter_1 q)]) (ws1 := [(y, .inr (4, [.ref nw, .ref ad, .ref pa, .int sn, .ref eA, .long hs])), (nw, .inl (cI, 39, .inl f)), (ad, .inl (cI, 39, .inl g)), (pa, .inl (cI, 195, .inl pf)), (eA, .inl (cI, 3, .inl z))]) S G (c_X4_at l D cI cS 1 1) gX4_lagAt_X4_at rfl (by decide +kernel) ⟨⟨rfl, rfl⟩, Nat.le_of_ble_eq_true rfl, Nat.le_of_ble_eq_true rfl⟩ [] (by decide) rfl [] rfl rfl rfl hl.1 rfl (Nat.le_of_ble_eq_true rfl) ⟨Nat.zero_le _, Nat.zero_le _⟩ dX4_lagAt_32 (congrArg (fun z => Value.int z :: [.ref nw, .int (s_X4_dueAfter_1 q)]) (by decide : (s_X4_at 1 1) = 10)) rfl (fun H locs G => ?_)
    refine k_iald (x := (f 10)) S G 1 0 rfl rfl (by unfold vp_in; decide) rfl dX4_lagAt_35 ?_
    refine lv_isub hx hb dX4_lagAt_36 ?_
    refine lv_iload_n hx hb dX4_lagAt_37 rfl (lv_at hl 0 rfl) ?_
    refine lv_iadd hx hb dX4_lagAt_38 ?_
    refine lv_iload_n hx hb dX4_lagAt_39 rfl (lv_at hl 0 rfl) ?_
    refine lv_irem hx hb dX4_lagAt_40 (by decide) ?_
    refine lv_lit (v := (irem (((s_X4_dueAfter_1 q) - (f 10)) + 4) 4)) rfl ?_
    have es : (s_X4_lagAt_1 f q) = (irem (((s_X4_dueAfter_1 q) - (f 10)) + 4) 4) := by rw [s_X4_lagAt_1, if_pos c_1]
    exact k_iret S G hr hlk dX4_lagAt_41 (by first | (rw [es]; done) | (rw [es]; rfl) | (simp only [es]; done) | (simp only [es]; rfl)) rfl
  · skip
    refine lv_iconst (v := 0) hx hb dX4_lagAt_14 (by decide) ?_
    have es : (s_X4_lagAt_1 f q) = 0 := by rw [s_X4_lagAt_1, if_neg c_1]
    exact k_iret S G hr hlk dX4_lagAt_15 (by first | (rw [es]; done) | (rw [es]; rfl) | (simp only [es]; done) | (simp only [es]; rfl)) rfl
def s_X4_tick (f : Nat → Int32) : Int32 × (Nat → Int32) := (if (irem (irem ((f 0) + 1) 1440) 15) = 0 then (if (s_X4_silentAt (upd f 0 (irem ((f 0) + 1) 1440)) (irem ((f 0) + 1) 1440)) = 0 then (if (irem (irem ((f 0) + 1) 1440) 60) = 0 then (((s_X4_release_1 (upd f 0 (irem ((f 0) + 1) 1440)) (s_X4_dueAfter_1 (f 0)) (s_X4_silentAt (upd f 0 (irem ((f 0) + 1) 1440)) (irem ((f 0) + 1) 1440))).1 + (s_X4_release_0 (s_X4_release_1 (upd f 0 (irem ((f 0) + 1) 1440)) (s_X4_dueAfter_1 (f 0)) (s_X4_silentAt (upd f 0 (irem ((f 0) + 1) 1440)) (irem ((f 0) + 1) 1440))).2 (s_X4_dueAfter_0 (f 0)) (s_X4_silentAt (upd f 0 (irem ((f 0) + 1) 1440)) (irem ((f 0) + 1) 1440))).1), (s_X4_release_0 (s_X4_release_1 (upd f 0 (irem ((f 0) + 1) 1440)) (s_X4_dueAfter_1 (f 0)) (s_X4_silentAt (upd f 0 (irem ((f 0) + 1) 1440)) (irem ((f 0) + 1) 1440))).2 (s_X4_dueAfter_0 (f 0)) (s_X4_silentAt (upd f 0 (irem ((f 0) + 1) 1440)) (irem ((f 0) + 1) 1440))).2) else ((s_X4_release_1 (upd f 0 (irem ((f 0) + 1) 1440)) (s_X4_dueAfter_1 (f 0)) (s_X4_silentAt (upd f 0 (irem ((f 0) + 1) 1440)) (irem ((f 0) + 1) 1440))).1, (s_X4_release_1 (upd f 0 (irem ((f 0) + 1) 1440)) (s_X4_dueAfter_1 (f 0)) (s_X4_silentAt (upd f 0 (irem ((f 0) + 1) 1440)) (irem ((f 0) + 1) 1440))).2)) else (if (f 1) = 1 then (0, (upd f 0 (irem ((f 0) + 1) 1440))) else (if (irem (irem ((f 0) + 1) 1440) 60) = 0 then (((s_X4_release_1 (upd f 0 (irem ((f 0) + 1) 1440)) (s_X4_dueAfter_1 (f 0)) (s_X4_silentAt (upd f 0 (irem ((f 0) + 1) 1440)) (irem ((f 0) + 1) 1440))).1 + (s_X4_release_0 (s_X4_release_1 (upd f 0 (irem ((f 0) + 1) 1440)) (s_X4_dueAfter_1 (f 0)) (s_X4_silentAt (upd f 0 (irem ((f 0) + 1) 1440)) (irem ((f 0) + 1) 1440))).2 (s_X4_dueAfter_0 (f 0)) (s_X4_silentAt (upd f 0 (irem ((f 0) + 1) 1440)) (irem ((f 0) + 1) 1440))).1), (s_X4_release_0 (s_X4_release_1 (upd f 0 (irem ((f 0) + 1) 1440)) (s_X4_dueAfter_1 (f 0)) (s_X4_silentAt (upd f 0 (irem ((f 0) + 1) 1440)) (irem ((f 0) + 1) 1440))).2 (s_X4_dueAfter_0 (f 0)) (s_X4_silentAt (upd f 0 (irem ((f 0) + 1) 1440)) (irem ((f 0) + 1) 1440))).2) else ((s_X4_release_1 (upd f 0 (irem ((f 0) + 1) 1440)) (s_X4_dueAfter_1 (f 0)) (s_X4_silentAt (upd f 0 (irem ((f 0) + 1) 1440)) (irem ((f 0) + 1) 1440))).1, (s_X4_release_1 (upd f 0 (irem ((f 0) + 1) 1440)) (s_X4_dueAfter_1 (f 0)) (s_X4_silentAt (upd f 0 (irem ((f 0) + 1) 1440)) (irem ((f 0) + 1) 1440))).2)))) else (0, (upd f 0 (irem ((f 0) + 1) 1440))))
set_option maxHeartbeats 4000000 in
set_option maxRecDepth 100000 in
theorem c_X4_tick (l : Launch) (D : va_G) (cI cS : ClassId) (y : Nat) (nw : Nat) (ad : Nat) (pa : Nat) (eA : Nat) (sn : Int32) (hs : Int64) (f : Nat → Int32) (g : Nat → Int32) (pf : Nat → Int32) (z : Nat → Int32) : Ct l yX4_tick wsX4_tick ({ frames := 3, cells := 0, slots := 0, locals := 70 }) D (tyL cI cS) [.ref y] [(y, .inr (4, [.ref nw, .ref ad, .ref pa, .int sn, .ref eA, .long hs])), (nw, .inl (cI, 39, .inl f)), (ad, .inl (cI, 39, .inl g)), (pa, .inl (cI, 195, .inl pf)), (eA, .inl (cI, 3, .inl z))] (some (.int ((s_X4_tick f).1))) [(y, .inr (4, [.ref nw, .ref ad, .ref pa, .int sn, .ref eA, .long hs])), (nw, .inl (cI, 39, .inl ((s_X4_tick f).2))), (ad, .inl (cI, 39, .inl g)), (pa, .inl (cI, 195, .inl pf)), (eA, .inl (cI, 3, .inl z))] := by
  refine Ct.of (cc := cX4_tick) (maxL := 5) (ret := (some .int)) (by decide) rfl (Nat.le_of_ble_eq_true rfl) ?_
  intro p ev s m args below meth c A ls S hr hlk G hl
  have hx := S.1
  have hb := S.2.1
  have hown : s.vm.findClass RX4 = some m.cls := S.2.2.2.1
  have hts := S.2.2.2.2
  have hl : lv_has ls 5 [(0, .ref y)] := hl
  have hiX4 : ∀ w ∈ wsX40, w ∈ wsX4_tick := by decide +kernel
  have hf7 := hts (.fieldLink RX4 7 "StrikingWorkModel" "now" "[I") (by decide +kernel)
  refine lv_aload_n hx hb dX4_tick_0 rfl (lv_at hl 0 rfl) ?_
  refine k_get (v := .ref nw) S G 0 rfl rfl hiX4 0 (by decide) hf7 rfl dX4_tick_1 ?_
  refine lv_iconst (v := 0) hx hb dX4_tick_4 (by decide) ?_
  refine k_iald (x := (f 0)) S G 1 0 rfl rfl (by unfold vp_in; decide) rfl dX4_tick_5 ?_
  refine lv_istore_n (lv' := [(1, .int (f 0)), (0, .ref y)]) hx hb dX4_tick_6 rfl hl (by decide) rfl (fun ls hl => ?_)
  refine lv_aload_n hx hb dX4_tick_7 rfl (lv_at hl 1 rfl) ?_
  refine k_get (v := .ref nw) S G 0 rfl rfl hiX4 0 (by decide) hf7 rfl dX4_tick_8 ?_
  refine lv_iconst (v := 0) hx hb dX4_tick_11 (by decide) ?_
  refine lv_iload_n hx hb dX4_tick_12 rfl (lv_at hl 0 rfl) ?_
  refine lv_iconst (v := 1) hx hb dX4_tick_13 (by decide) ?_
  refine lv_iadd hx hb dX4_tick_14 ?_
  refine lv_sipush (v := 1440) hx hb dX4_tick_15 (by decide) ?_
  refine lv_irem hx hb dX4_tick_18 (by decide) ?_
  refine lv_lit (v := (irem ((f 0) + 1) 1440)) rfl ?_
  refine k_iast (ws1 := [(y, .inr (4, [.ref nw, .ref ad, .ref pa, .int sn, .ref eA, .long hs])), (nw, .inl (cI, 39, .inl (upd f 0 (irem ((f 0) + 1) 1440)))), (ad, .inl (cI, 39, .inl g)), (pa, .inl (cI, 195, .inl pf)), (eA, .inl (cI, 3, .inl z))]) S G 1 0 rfl rfl (by unfold vp_in; decide) dX4_tick_19 rfl (fun H locs G => ?_)
  refine lv_aload_n hx hb dX4_tick_20 rfl (lv_at hl 1 rfl) ?_
  refine k_get (v := .ref nw) S G 0 rfl rfl hiX4 0 (by decide) hf7 rfl dX4_tick_21 ?_
  refine lv_iconst (v := 0) hx hb dX4_tick_24 (by decide) ?_
  refine k_iald (x := (irem ((f 0) + 1) 1440)) S G 1 0 rfl rfl (by unfold vp_in; decide) rfl dX4_tick_25 ?_
  refine lv_istore_n (lv' := [(2, .int (irem ((f 0) + 1) 1440)), (1, .int (f 0)), (0, .ref y)]) hx hb dX4_tick_26 rfl hl (by decide) rfl (fun ls hl => ?_)
  refine lv_aload_n hx hb dX4_tick_27 rfl (lv_at hl 2 rfl) ?_
  refine lv_iload_n hx hb dX4_tick_28 rfl (lv_at hl 0 rfl) ?_
  refine k_callV (n := 1) (As := [.int (irem ((f 0) + 1) 1440)]) (rest := []) (st1 := [.int (s_X4_silentAt (upd f 0 (irem ((f 0) + 1) 1440)) (irem ((f 0) + 1) 1440))]) (ws1 := [(y, .inr (4, [.ref nw, .ref ad, .ref pa, .int sn, .ref eA, .long hs])), (nw, .inl (cI, 39, .inl (upd f 0 (irem ((f 0) + 1) 1440)))), (ad, .inl (cI, 39, .inl g)), (pa, .inl (cI, 195, .inl pf)), (eA, .inl (cI, 3, .inl z))]) S G (c_X4_silentAt l D cI cS y nw ad pa eA sn hs (upd f 0 (irem ((f 0) + 1) 1440)) g pf z (irem ((f 0) + 1) 1440)) gX4_tick_X4_silentAt rfl (by decide +kernel) ⟨⟨rfl, rfl⟩, Nat.le_of_ble_eq_true rfl, Nat.le_of_ble_eq_true rfl⟩ [0, 1, 2, 3, 4] (by decide) rfl [y, nw, ad, pa, eA] rfl rfl 0 rfl rfl rfl hl.1 rfl (Nat.le_of_ble_eq_true rfl) ⟨Nat.zero_le _, Nat.zero_le _⟩ dX4_tick_29 rfl rfl (fun H locs G => ?_)
  refine lv_istore_n (lv' := [(3, .int (s_X4_silentAt (upd f 0 (irem ((f 0) + 1) 1440)) (irem ((f 0) + 1) 1440))), (2, .int (irem ((f 0) + 1) 1440)), (1, .int (f 0)), (0, .ref y)]) hx hb dX4_tick_32 rfl hl (by decide) rfl (fun ls hl => ?_)
  refine lv_iload_n hx hb dX4_tick_33 rfl (lv_at hl 1 rfl) ?_
  refine lv_bipush (v := 15) hx hb dX4_tick_34 (by decide) ?_
  refine lv_irem hx hb dX4_tick_36 (by decide) ?_
  refine lv_lit (v := (irem (irem ((f 0) + 1) 1440) 15)) rfl ?_
  refine lv_if_ne (tgt := 54) hx hb dX4_tick_37 (by decide) (fun c_1 => ?_) (fun c_1 => ?_)
  · skip
    refine lv_iconst (v := 0) hx hb dX4_tick_54 (by decide) ?_
    have es : (s_X4_tick f) = (0, (upd f 0 (irem ((f 0) + 1) 1440))) := by rw [s_X4_tick, if_neg c_1]
    exact k_iret S G hr hlk dX4_tick_55 (by first | (rw [es]; done) | (rw [es]; rfl) | (simp only [es]; done) | (simp only [es]; rfl)) (by first | (rw [es]; done) | (rw [es]; rfl) | (simp only [es]; done) | (simp only [es]; rfl))
  · skip
    refine lv_iload_n hx hb dX4_tick_40 rfl (lv_at hl 0 rfl) ?_
    refine lv_if_eq (tgt := 56) hx hb dX4_tick_41 (by decide) (fun c_2 => ?_) (fun c_2 => ?_)
    · skip
      refine lv_aload_n hx hb dX4_tick_56 rfl (lv_at hl 3 rfl) ?_
      refine lv_iconst (v := 1) hx hb dX4_tick_57 (by decide) ?_
      refine lv_iconst (v := 1) hx hb dX4_tick_58 (by decide) ?_
      refine lv_iload_n hx hb dX4_tick_59 rfl (lv_at hl 2 rfl) ?_
      refine k_callS (n := 2) (As := [.int 1, .int (f 0)]) (rest := [.int 1, .ref y]) (st1 := [.int (s_X4_dueAfter_1 (f 0)), .int 1, .ref y]) (ws1 := [(y, .inr (4, [.ref nw, .ref ad, .ref pa, .int sn, .ref eA, .long hs])), (nw, .inl (cI, 39, .inl (upd f 0 (irem ((f 0) + 1) 1440)))), (ad, .inl (cI, 39, .inl g)), (pa, .inl (cI, 195, .inl pf)), (eA, .inl (cI, 3, .inl z))]) S G (c_X4_dueAfter_1 l D cI cS (f 0)) gX4_tick_X4_dueAfter rfl (by decide +kernel) ⟨⟨rfl, rfl⟩, Nat.le_of_ble_eq_true rfl, Nat.le_of_ble_eq_true rfl⟩ [] (by decide) rfl [] rfl rfl rfl hl.1 rfl (Nat.le_of_ble_eq_true rfl) ⟨Nat.zero_le _, Nat.zero_le _⟩ dX4_tick_60 rfl rfl (fun H locs G => ?_)
      refine lv_iload_n hx hb dX4_tick_63 rfl (lv_at hl 0 rfl) ?_
      refine k_callV (n := 3) (As := [.int 1, .int (s_X4_dueAfter_1 (f 0)), .int (s_X4_silentAt (upd f 0 (irem ((f 0) + 1) 1440)) (irem ((f 0) + 1) 1440))]) (rest := []) (st1 := [.int ((s_X4_release_1 (upd f 0 (irem ((f 0) + 1) 1440)) (s_X4_dueAfter_1 (f 0)) (s_X4_silentAt (upd f 0 (irem ((f 0) + 1) 1440)) (irem ((f 0) + 1) 1440))).1)]) (ws1 := [(y, .inr (4, [.ref nw, .ref ad, .ref pa, .int sn, .ref eA, .long hs])), (nw, .inl (cI, 39, .inl ((s_X4_release_1 (upd f 0 (irem ((f 0) + 1) 1440)) (s_X4_dueAfter_1 (f 0)) (s_X4_silentAt (upd f 0 (irem ((f 0) + 1) 1440)) (irem ((f 0) + 1) 1440))).2))), (ad, .inl (cI, 39, .inl g)), (pa, .inl (cI, 195, .inl pf)), (eA, .inl (cI, 3, .inl z))]) S G (c_X4_release_1 l D cI cS y nw ad pa eA sn hs (upd f 0 (irem ((f 0) + 1) 1440)) g pf z (s_X4_dueAfter_1 (f 0)) (s_X4_silentAt (upd f 0 (irem ((f 0) + 1) 1440)) (irem ((f 0) + 1) 1440))) gX4_tick_X4_release rfl (by decide +kernel) ⟨⟨rfl, rfl⟩, Nat.le_of_ble_eq_true rfl, Nat.le_of_ble_eq_true rfl⟩ [0, 1, 2, 3, 4] (by decide) rfl [y, nw, ad, pa, eA] rfl rfl 0 rfl rfl rfl hl.1 rfl (Nat.le_of_ble_eq_true rfl) ⟨Nat.zero_le _, Nat.zero_le _⟩ dX4_tick_64 rfl rfl (fun H locs G => ?_)
      generalize hu1 : (s_X4_release_1 (upd f 0 (irem ((f 0) + 1) 1440)) (s_X4_dueAfter_1 (f 0)) (s_X4_silentAt (upd f 0 (irem ((f 0) + 1) 1440)) (irem ((f 0) + 1) 1440))) = u1 at G ⊢
      refine lv_istore (lv' := [(4, .int u1.1), (3, .int (s_X4_silentAt (upd f 0 (irem ((f 0) + 1) 1440)) (irem ((f 0) + 1) 1440))), (2, .int (irem ((f 0) + 1) 1440)), (1, .int (f 0)), (0, .ref y)]) hx hb dX4_tick_67 hl (by decide) rfl (fun ls hl => ?_)
      refine lv_iload_n hx hb dX4_tick_69 rfl (lv_at hl 2 rfl) ?_
      refine lv_bipush (v := 60) hx hb dX4_tick_70 (by decide) ?_
      refine lv_irem hx hb dX4_tick_72 (by decide) ?_
      refine lv_lit (v := (irem (irem ((f 0) + 1) 1440) 60)) rfl ?_
      refine lv_if_ne (tgt := 93) hx hb dX4_tick_73 (by decide) (fun c_3 => ?_) (fun c_3 => ?_)
      · skip
        refine lv_iload hx hb dX4_tick_93 (lv_at hl 0 rfl) ?_
        have es : (s_X4_tick f) = (u1.1, u1.2) := by rw [s_X4_tick, hu1, if_pos c_1, if_pos c_2, if_neg c_3]
        exact k_iret S G hr hlk dX4_tick_95 (by first | (rw [es]; done) | (rw [es]; rfl) | (simp only [es]; done) | (simp only [es]; rfl)) (by first | (rw [es]; done) | (rw [es]; rfl) | (simp only [es]; done) | (simp only [es]; rfl))
      · skip
        refine lv_iload hx hb dX4_tick_76 (lv_at hl 0 rfl) ?_
        refine lv_aload_n hx hb dX4_tick_78 rfl (lv_at hl 4 rfl) ?_
        refine lv_iconst (v := 0) hx hb dX4_tick_79 (by decide) ?_
        refine lv_iconst (v := 0) hx hb dX4_tick_80 (by decide) ?_
        refine lv_iload_n hx hb dX4_tick_81 rfl (lv_at hl 3 rfl) ?_
        refine k_callS (n := 2) (As := [.int 0, .int (f 0)]) (rest := [.int 0, .ref y, .int u1.1]) (st1 := [.int (s_X4_dueAfter_0 (f 0)), .int 0, .ref y, .int u1.1]) (ws1 := [(y, .inr (4, [.ref nw, .ref ad, .ref pa, .int sn, .ref eA, .long hs])), (nw, .inl (cI, 39, .inl u1.2)), (ad, .inl (cI, 39, .inl g)), (pa, .inl (cI, 195, .inl pf)), (eA, .inl (cI, 3, .inl z))]) S G (c_X4_dueAfter_0 l D cI cS (f 0)) gX4_tick_X4_dueAfter rfl (by decide +kernel) ⟨⟨rfl, rfl⟩, Nat.le_of_ble_eq_true rfl, Nat.le_of_ble_eq_true rfl⟩ [] (by decide) rfl [] rfl rfl rfl hl.1 rfl (Nat.le_of_ble_eq_true rfl) ⟨Nat.zero_le _, Nat.zero_le _⟩ dX4_tick_82 rfl rfl (fun H locs G => ?_)
        refine lv_iload_n hx hb dX4_tick_85 rfl (lv_at hl 1 rfl) ?_
        refine k_callV (n := 3) (As := [.int 0, .int (s_X4_dueAfter_0 (f 0)), .int (s_X4_silentAt (upd f 0 (irem ((f 0) + 1) 1440)) (irem ((f 0) + 1) 1440))]) (rest := [.int u1.1]) (st1 := [.int ((s_X4_release_0 u1.2 (s_X4_dueAfter_0 (f 0)) (s_X4_silentAt (upd f 0 (irem ((f 0) + 1) 1440)) (irem ((f 0) + 1) 1440))).1), .int u1.1]) (ws1 := [(y, .inr (4, [.ref nw, .ref ad, .ref pa, .int sn, .ref eA, .long hs])), (nw, .inl (cI, 39, .inl ((s_X4_release_0 u1.2 (s_X4_dueAfter_0 (f 0)) (s_X4_silentAt (upd f 0 (irem ((f 0) + 1) 1440)) (irem ((f 0) + 1) 1440))).2))), (ad, .inl (cI, 39, .inl g)), (pa, .inl (cI, 195, .inl pf)), (eA, .inl (cI, 3, .inl z))]) S G (c_X4_release_0 l D cI cS y nw ad pa eA sn hs u1.2 g pf z (s_X4_dueAfter_0 (f 0)) (s_X4_silentAt (upd f 0 (irem ((f 0) + 1) 1440)) (irem ((f 0) + 1) 1440))) gX4_tick_X4_release rfl (by decide +kernel) ⟨⟨rfl, rfl⟩, Nat.le_of_ble_eq_true rfl, Nat.le_of_ble_eq_true rfl⟩ [0, 1, 2, 3, 4] (by decide) rfl [y, nw, ad, pa, eA] rfl rfl 0 rfl rfl rfl hl.1 rfl (Nat.le_of_ble_eq_true rfl) ⟨Nat.zero_le _, Nat.zero_le _⟩ dX4_tick_86 rfl rfl (fun H locs G => ?_)
        generalize hu2 : (s_X4_release_0 u1.2 (s_X4_dueAfter_0 (f 0)) (s_X4_silentAt (upd f 0 (irem ((f 0) + 1) 1440)) (irem ((f 0) + 1) 1440))) = u2 at G ⊢
        refine lv_iadd hx hb dX4_tick_89 ?_
        refine lv_goto (tgt := 95) hx hb dX4_tick_90 (by decide) ?_
        have es : (s_X4_tick f) = ((u1.1 + u2.1), u2.2) := by rw [s_X4_tick, hu1, hu2, if_pos c_1, if_pos c_2, if_pos c_3]
        exact k_iret S G hr hlk dX4_tick_95 (by first | (rw [es]; done) | (rw [es]; rfl) | (simp only [es]; done) | (simp only [es]; rfl)) (by first | (rw [es]; done) | (rw [es]; rfl) | (simp only [es]; done) | (simp only [es]; rfl))
    · skip
      refine lv_aload_n hx hb dX4_tick_44 rfl (lv_at hl 3 rfl) ?_
      refine k_get (v := .ref nw) S G 0 rfl rfl hiX4 0 (by decide) hf7 rfl dX4_tick_45 ?_
      refine lv_iconst (v := 1) hx hb dX4_tick_48 (by decide) ?_
      refine k_iald (x := (f 1)) S G 1 0 rfl rfl (by unfold vp_in; decide) rfl dX4_tick_49 ?_
      refine lv_iconst (v := 1) hx hb dX4_tick_50 (by decide) ?_
      refine lv_icmp_ne (tgt := 56) hx hb dX4_tick_51 (by decide) (fun c_4 => ?_) (fun c_4 => ?_)
      · skip
        refine lv_aload_n hx hb dX4_tick_56 rfl (lv_at hl 3 rfl) ?_
        refine lv_iconst (v := 1) hx hb dX4_tick_57 (by decide) ?_
        refine lv_iconst (v := 1) hx hb dX4_tick_58 (by decide) ?_
        refine lv_iload_n hx hb dX4_tick_59 rfl (lv_at hl 2 rfl) ?_
        refine k_callS (n := 2) (As := [.int 1, .int (f 0)]) (rest := [.int 1, .ref y]) (st1 := [.int (s_X4_dueAfter_1 (f 0)), .int 1, .ref y]) (ws1 := [(y, .inr (4, [.ref nw, .ref ad, .ref pa, .int sn, .ref eA, .long hs])), (nw, .inl (cI, 39, .inl (upd f 0 (irem ((f 0) + 1) 1440)))), (ad, .inl (cI, 39, .inl g)), (pa, .inl (cI, 195, .inl pf)), (eA, .inl (cI, 3, .inl z))]) S G (c_X4_dueAfter_1 l D cI cS (f 0)) gX4_tick_X4_dueAfter rfl (by decide +kernel) ⟨⟨rfl, rfl⟩, Nat.le_of_ble_eq_true rfl, Nat.le_of_ble_eq_true rfl⟩ [] (by decide) rfl [] rfl rfl rfl hl.1 rfl (Nat.le_of_ble_eq_true rfl) ⟨Nat.zero_le _, Nat.zero_le _⟩ dX4_tick_60 rfl rfl (fun H locs G => ?_)
        refine lv_iload_n hx hb dX4_tick_63 rfl (lv_at hl 0 rfl) ?_
        refine k_callV (n := 3) (As := [.int 1, .int (s_X4_dueAfter_1 (f 0)), .int (s_X4_silentAt (upd f 0 (irem ((f 0) + 1) 1440)) (irem ((f 0) + 1) 1440))]) (rest := []) (st1 := [.int ((s_X4_release_1 (upd f 0 (irem ((f 0) + 1) 1440)) (s_X4_dueAfter_1 (f 0)) (s_X4_silentAt (upd f 0 (irem ((f 0) + 1) 1440)) (irem ((f 0) + 1) 1440))).1)]) (ws1 := [(y, .inr (4, [.ref nw, .ref ad, .ref pa, .int sn, .ref eA, .long hs])), (nw, .inl (cI, 39, .inl ((s_X4_release_1 (upd f 0 (irem ((f 0) + 1) 1440)) (s_X4_dueAfter_1 (f 0)) (s_X4_silentAt (upd f 0 (irem ((f 0) + 1) 1440)) (irem ((f 0) + 1) 1440))).2))), (ad, .inl (cI, 39, .inl g)), (pa, .inl (cI, 195, .inl pf)), (eA, .inl (cI, 3, .inl z))]) S G (c_X4_release_1 l D cI cS y nw ad pa eA sn hs (upd f 0 (irem ((f 0) + 1) 1440)) g pf z (s_X4_dueAfter_1 (f 0)) (s_X4_silentAt (upd f 0 (irem ((f 0) + 1) 1440)) (irem ((f 0) + 1) 1440))) gX4_tick_X4_release rfl (by decide +kernel) ⟨⟨rfl, rfl⟩, Nat.le_of_ble_eq_true rfl, Nat.le_of_ble_eq_true rfl⟩ [0, 1, 2, 3, 4] (by decide) rfl [y, nw, ad, pa, eA] rfl rfl 0 rfl rfl rfl hl.1 rfl (Nat.le_of_ble_eq_true rfl) ⟨Nat.zero_le _, Nat.zero_le _⟩ dX4_tick_64 rfl rfl (fun H locs G => ?_)
        generalize hu3 : (s_X4_release_1 (upd f 0 (irem ((f 0) + 1) 1440)) (s_X4_dueAfter_1 (f 0)) (s_X4_silentAt (upd f 0 (irem ((f 0) + 1) 1440)) (irem ((f 0) + 1) 1440))) = u3 at G ⊢
        refine lv_istore (lv' := [(4, .int u3.1), (3, .int (s_X4_silentAt (upd f 0 (irem ((f 0) + 1) 1440)) (irem ((f 0) + 1) 1440))), (2, .int (irem ((f 0) + 1) 1440)), (1, .int (f 0)), (0, .ref y)]) hx hb dX4_tick_67 hl (by decide) rfl (fun ls hl => ?_)
        refine lv_iload_n hx hb dX4_tick_69 rfl (lv_at hl 2 rfl) ?_
        refine lv_bipush (v := 60) hx hb dX4_tick_70 (by decide) ?_
        refine lv_irem hx hb dX4_tick_72 (by decide) ?_
        refine lv_lit (v := (irem (irem ((f 0) + 1) 1440) 60)) rfl ?_
        refine lv_if_ne (tgt := 93) hx hb dX4_tick_73 (by decide) (fun c_5 => ?_) (fun c_5 => ?_)
        · skip
          refine lv_iload hx hb dX4_tick_93 (lv_at hl 0 rfl) ?_
          have es : (s_X4_tick f) = (u3.1, u3.2) := by rw [s_X4_tick, hu3, if_pos c_1, if_neg c_2, if_neg c_4, if_neg c_5]
          exact k_iret S G hr hlk dX4_tick_95 (by first | (rw [es]; done) | (rw [es]; rfl) | (simp only [es]; done) | (simp only [es]; rfl)) (by first | (rw [es]; done) | (rw [es]; rfl) | (simp only [es]; done) | (simp only [es]; rfl))
        · skip
          refine lv_iload hx hb dX4_tick_76 (lv_at hl 0 rfl) ?_
          refine lv_aload_n hx hb dX4_tick_78 rfl (lv_at hl 4 rfl) ?_
          refine lv_iconst (v := 0) hx hb dX4_tick_79 (by decide) ?_
          refine lv_iconst (v := 0) hx hb dX4_tick_80 (by decide) ?_
          refine lv_iload_n hx hb dX4_tick_81 rfl (lv_at hl 3 rfl) ?_
          refine k_callS (n := 2) (As := [.int 0, .int (f 0)]) (rest := [.int 0, .ref y, .int u3.1]) (st1 := [.int (s_X4_dueAfter_0 (f 0)), .int 0, .ref y, .int u3.1]) (ws1 := [(y, .inr (4, [.ref nw, .ref ad, .ref pa, .int sn, .ref eA, .long hs])), (nw, .inl (cI, 39, .inl u3.2)), (ad, .inl (cI, 39, .inl g)), (pa, .inl (cI, 195, .inl pf)), (eA, .inl (cI, 3, .inl z))]) S G (c_X4_dueAfter_0 l D cI cS (f 0)) gX4_tick_X4_dueAfter rfl (by decide +kernel) ⟨⟨rfl, rfl⟩, Nat.le_of_ble_eq_true rfl, Nat.le_of_ble_eq_true rfl⟩ [] (by decide) rfl [] rfl rfl rfl hl.1 rfl (Nat.le_of_ble_eq_true rfl) ⟨Nat.zero_le _, Nat.zero_le _⟩ dX4_tick_82 rfl rfl (fun H locs G => ?_)
          refine lv_iload_n hx hb dX4_tick_85 rfl (lv_at hl 1 rfl) ?_
          refine k_callV (n := 3) (As := [.int 0, .int (s_X4_dueAfter_0 (f 0)), .int (s_X4_silentAt (upd f 0 (irem ((f 0) + 1) 1440)) (irem ((f 0) + 1) 1440))]) (rest := [.int u3.1]) (st1 := [.int ((s_X4_release_0 u3.2 (s_X4_dueAfter_0 (f 0)) (s_X4_silentAt (upd f 0 (irem ((f 0) + 1) 1440)) (irem ((f 0) + 1) 1440))).1), .int u3.1]) (ws1 := [(y, .inr (4, [.ref nw, .ref ad, .ref pa, .int sn, .ref eA, .long hs])), (nw, .inl (cI, 39, .inl ((s_X4_release_0 u3.2 (s_X4_dueAfter_0 (f 0)) (s_X4_silentAt (upd f 0 (irem ((f 0) + 1) 1440)) (irem ((f 0) + 1) 1440))).2))), (ad, .inl (cI, 39, .inl g)), (pa, .inl (cI, 195, .inl pf)), (eA, .inl (cI, 3, .inl z))]) S G (c_X4_release_0 l D cI cS y nw ad pa eA sn hs u3.2 g pf z (s_X4_dueAfter_0 (f 0)) (s_X4_silentAt (upd f 0 (irem ((f 0) + 1) 1440)) (irem ((f 0) + 1) 1440))) gX4_tick_X4_release rfl (by decide +kernel) ⟨⟨rfl, rfl⟩, Nat.le_of_ble_eq_true rfl, Nat.le_of_ble_eq_true rfl⟩ [0, 1, 2, 3, 4] (by decide) rfl [y, nw, ad, pa, eA] rfl rfl 0 rfl rfl rfl hl.1 rfl (Nat.le_of_ble_eq_true rfl) ⟨Nat.zero_le _, Nat.zero_le _⟩ dX4_tick_86 rfl rfl (fun H locs G => ?_)
          generalize hu4 : (s_X4_release_0 u3.2 (s_X4_dueAfter_0 (f 0)) (s_X4_silentAt (upd f 0 (irem ((f 0) + 1) 1440)) (irem ((f 0) + 1) 1440))) = u4 at G ⊢
          refine lv_iadd hx hb dX4_tick_89 ?_
          refine lv_goto (tgt := 95) hx hb dX4_tick_90 (by decide) ?_
          have es : (s_X4_tick f) = ((u3.1 + u4.1), u4.2) := by rw [s_X4_tick, hu3, hu4, if_pos c_1, if_neg c_2, if_neg c_4, if_pos c_5]
          exact k_iret S G hr hlk dX4_tick_95 (by first | (rw [es]; done) | (rw [es]; rfl) | (simp only [es]; done) | (simp only [es]; rfl)) (by first | (rw [es]; done) | (rw [es]; rfl) | (simp only [es]; done) | (simp only [es]; rfl))
      · skip
        refine lv_iconst (v := 0) hx hb dX4_tick_54 (by decide) ?_
        have es : (s_X4_tick f) = (0, (upd f 0 (irem ((f 0) + 1) 1440))) := by rw [s_X4_tick, if_pos c_1, if_neg c_2, if_pos c_4]
        exact k_iret S G hr hlk dX4_tick_55 (by first | (rw [es]; done) | (rw [es]; rfl) | (simp only [es]; done) | (simp only [es]; rfl)) (by first | (rw [es]; done) | (rw [es]; rfl) | (simp only [es]; done) | (simp only [es]; rfl))
