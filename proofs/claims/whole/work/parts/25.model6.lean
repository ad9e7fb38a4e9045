/-- the hands go forward, at most n minutes, until the lag is 0 -/
def htcM0 (f : Nat → Int32) : Nat → Int32 → Int32
  | 0, m => m
  | n + 1, m => if (s_X4_lagAt_0 f m) = 0 then m else htcM0 f n (irem (m + 1) 1440)
set_option maxHeartbeats 4000000 in
set_option maxRecDepth 100000 in
theorem lp_X4_htc_0 (l : Launch) (D : va_G) (cI cS : ClassId) (y : Nat) (nw : Nat) (ad : Nat) (pa : Nat) (eA : Nat) (sn : Int32) (hs : Int64) (f : Nat → Int32) (g : Nat → Int32) (pf : Nat → Int32) (z : Nat → Int32) {p : Program} {ev : Env} {s : State} {m : MethodId} {args : Array Value} {below : List Frame} {meth : Method} {c : Code} {A : Nat → Prop} {Q : State → Prop} (S : CallFix p m c cX4_handsToCorrect 3 s args wsX4_handsToCorrect RX4)  :
    ∀ (n : Nat) (mi : Int32), s_X4_lagAt_0 f (htcM0 f n mi) = 0 → (∀ (H : Heap) (locs : List Loc) (ls : Array Slot), Gd D (tyL cI cS) A s.heap s [(y, .inr (4, [.ref nw, .ref ad, .ref pa, .int sn, .ref eA, .long hs])), (nw, .inl (cI, 39, .inl f)), (ad, .inl (cI, 39, .inl g)), (pa, .inl (cI, 195, .inl pf)), (eA, .inl (cI, 3, .inl z))] H locs → lv_has ls 3 [(2, .int (htcM0 f n mi))] → W p l ev ({ frames := 6, cells := 0, slots := 0, locals := 250 }) s m args below meth c H locs 0 0 Q (F0 m 41 ls [])) → ∀ (H : Heap) (locs : List Loc) (ls : Array Slot), Gd D (tyL cI cS) A s.heap s [(y, .inr (4, [.ref nw, .ref ad, .ref pa, .int sn, .ref eA, .long hs])), (nw, .inl (cI, 39, .inl f)), (ad, .inl (cI, 39, .inl g)), (pa, .inl (cI, 195, .inl pf)), (eA, .inl (cI, 3, .inl z))] H locs → lv_has ls 3 [(2, .int mi), (1, .int 0), (0, .ref y)] → W p l ev ({ frames := 6, cells := 0, slots := 0, locals := 250 }) s m args below meth c H locs 0 0 Q (F0 m 21 ls []) := by
  have hx := S.1
  have hb := S.2.1
  have hown : s.vm.findClass RX4 = some m.cls := S.2.2.2.1
  have hts := S.2.2.2.2
  intro n
  induction n with
  | zero =>
    intro mi hin hk H locs ls G hl
    refine lv_aload_n hx hb dX4_handsToCorrect_21 rfl (lv_at hl 2 rfl) ?_
    refine lv_iload_n hx hb dX4_handsToCorrect_22 rfl (lv_at hl 1 rfl) ?_
    refine lv_iload_n hx hb dX4_handsToCorrect_23 rfl (lv_at hl 0 rfl) ?_
    refine k_callV (n := 2) (As := [.int 0, .int mi]) (rest := []) (st1 := [.int (s_X4_lagAt_0 f mi)]) (ws1 := [(y, .inr (4, [.ref nw, .ref ad, .ref pa, .int sn, .ref eA, .long hs])), (nw, .inl (cI, 39, .inl f)), (ad, .inl (cI, 39, .inl g)), (pa, .inl (cI, 195, .inl pf)), (eA, .inl (cI, 3, .inl z))]) S G (c_X4_lagAt_0 l D cI cS y nw ad pa eA sn hs f g pf z mi) gX4_handsToCorrect_X4_lagAt rfl (by decide +kernel) ⟨⟨rfl, rfl⟩, Nat.le_of_ble_eq_true rfl, Nat.le_of_ble_eq_true rfl⟩ [0, 1, 2, 3, 4] (by decide) rfl [y, nw, ad, pa, eA] rfl rfl 0 rfl rfl rfl hl.1 rfl (Nat.le_of_ble_eq_true rfl) ⟨Nat.zero_le _, Nat.zero_le _⟩ dX4_handsToCorrect_24 rfl rfl (fun H locs G => ?_)
    refine lv_if_eq (tgt := 41) hx hb dX4_handsToCorrect_27 (by decide) (fun c_1 => ?_) (fun c_1 => absurd hin c_1)
    exact hk _ _ ls G (lv_sub hl [0] rfl)
  | succ n ih =>
    intro mi hin hk H locs ls G hl
    by_cases hz : (s_X4_lagAt_0 f mi) = 0
    · skip
      refine lv_aload_n hx hb dX4_handsToCorrect_21 rfl (lv_at hl 2 rfl) ?_
      refine lv_iload_n hx hb dX4_handsToCorrect_22 rfl (lv_at hl 1 rfl) ?_
      refine lv_iload_n hx hb dX4_handsToCorrect_23 rfl (lv_at hl 0 rfl) ?_
      refine k_callV (n := 2) (As := [.int 0, .int mi]) (rest := []) (st1 := [.int (s_X4_lagAt_0 f mi)]) (ws1 := [(y, .inr (4, [.ref nw, .ref ad, .ref pa, .int sn, .ref eA, .long hs])), (nw, .inl (cI, 39, .inl f)), (ad, .inl (cI, 39, .inl g)), (pa, .inl (cI, 195, .inl pf)), (eA, .inl (cI, 3, .inl z))]) S G (c_X4_lagAt_0 l D cI cS y nw ad pa eA sn hs f g pf z mi) gX4_handsToCorrect_X4_lagAt rfl (by decide +kernel) ⟨⟨rfl, rfl⟩, Nat.le_of_ble_eq_true rfl, Nat.le_of_ble_eq_true rfl⟩ [0, 1, 2, 3, 4] (by decide) rfl [y, nw, ad, pa, eA] rfl rfl 0 rfl rfl rfl hl.1 rfl (Nat.le_of_ble_eq_true rfl) ⟨Nat.zero_le _, Nat.zero_le _⟩ dX4_handsToCorrect_24 rfl rfl (fun H locs G => ?_)
      refine lv_if_eq (tgt := 41) hx hb dX4_handsToCorrect_27 (by decide) (fun c_1 => ?_) (fun c_1 => absurd hz c_1)
      have eL : htcM0 f (n + 1) mi = mi := by rw [htcM0, if_pos hz]
      rw [eL] at hk
      exact hk _ _ ls G (lv_sub hl [0] rfl)
    · skip
      refine lv_aload_n hx hb dX4_handsToCorrect_21 rfl (lv_at hl 2 rfl) ?_
      refine lv_iload_n hx hb dX4_handsToCorrect_22 rfl (lv_at hl 1 rfl) ?_
      refine lv_iload_n hx hb dX4_handsToCorrect_23 rfl (lv_at hl 0 rfl) ?_
      refine k_callV (n := 2) (As := [.int 0, .int mi]) (rest := []) (st1 := [.int (s_X4_lagAt_0 f mi)]) (ws1 := [(y, .inr (4, [.ref nw, .ref ad, .ref pa, .int sn, .ref eA, .long hs])), (nw, .inl (cI, 39, .inl f)), (ad, .inl (cI, 39, .inl g)), (pa, .inl (cI, 195, .inl pf)), (eA, .inl (cI, 3, .inl z))]) S G (c_X4_lagAt_0 l D cI cS y nw ad pa eA sn hs f g pf z mi) gX4_handsToCorrect_X4_lagAt rfl (by decide +kernel) ⟨⟨rfl, rfl⟩, Nat.le_of_ble_eq_true rfl, Nat.le_of_ble_eq_true rfl⟩ [0, 1, 2, 3, 4] (by decide) rfl [y, nw, ad, pa, eA] rfl rfl 0 rfl rfl rfl hl.1 rfl (Nat.le_of_ble_eq_true rfl) ⟨Nat.zero_le _, Nat.zero_le _⟩ dX4_handsToCorrect_24 rfl rfl (fun H locs G => ?_)
      refine lv_if_eq (tgt := 41) hx hb dX4_handsToCorrect_27 (by decide) (fun c_1 => absurd c_1 hz) (fun c_1 => ?_)
      refine lv_iload_n hx hb dX4_handsToCorrect_30 rfl (lv_at hl 0 rfl) ?_
      refine lv_iconst (v := 1) hx hb dX4_handsToCorrect_31 (by decide) ?_
      refine lv_iadd hx hb dX4_handsToCorrect_32 ?_
      refine lv_sipush (v := 1440) hx hb dX4_handsToCorrect_33 (by decide) ?_
      refine lv_irem hx hb dX4_handsToCorrect_36 (by decide) ?_
      refine lv_lit (v := (irem (mi + 1) 1440)) rfl ?_
      refine lv_istore_n (lv' := [(2, .int (irem (mi + 1) 1440)), (1, .int 0), (0, .ref y)]) hx hb dX4_handsToCorrect_37 rfl hl (by decide) rfl (fun ls hl => ?_)
      refine lv_goto (tgt := 21) hx hb dX4_handsToCorrect_38 (by decide) ?_
      have eL : htcM0 f (n + 1) mi = htcM0 f n (irem (mi + 1) 1440) := by rw [htcM0, if_neg hz]
      rw [eL] at hk hin
      exact ih (irem (mi + 1) 1440) hin hk _ _ ls G (lv_sub hl [0, 1, 2] rfl)
/-- the hands go forward, at most n minutes, until the lag is 0 -/
def htcM1 (f : Nat → Int32) : Nat → Int32 → Int32
  | 0, m => m
  | n + 1, m => if (s_X4_lagAt_1 f m) = 0 then m else htcM1 f n (irem (m + 1) 1440)
set_option maxHeartbeats 4000000 in
set_option maxRecDepth 100000 in
theorem lp_X4_htc_1 (l : Launch) (D : va_G) (cI cS : ClassId) (y : Nat) (nw : Nat) (ad : Nat) (pa : Nat) (eA : Nat) (sn : Int32) (hs : Int64) (f : Nat → Int32) (g : Nat → Int32) (pf : Nat → Int32) (z : Nat → Int32) {p : Program} {ev : Env} {s : State} {m : MethodId} {args : Array Value} {below : List Frame} {meth : Method} {c : Code} {A : Nat → Prop} {Q : State → Prop} (S : CallFix p m c cX4_handsToCorrect 3 s args wsX4_handsToCorrect RX4)  :
    ∀ (n : Nat) (mi : Int32), s_X4_lagAt_1 f (htcM1 f n mi) = 0 → (∀ (H : Heap) (locs : List Loc) (ls : Array Slot), Gd D (tyL cI cS) A s.heap s [(y, .inr (4, [.ref nw, .ref ad, .ref pa, .int sn, .ref eA, .long hs])), (nw, .inl (cI, 39, .inl f)), (ad, .inl (cI, 39, .inl g)), (pa, .inl (cI, 195, .inl pf)), (eA, .inl (cI, 3, .inl z))] H locs → lv_has ls 3 [(2, .int (htcM1 f n mi))] → W p l ev ({ frames := 6, cells := 0, slots := 0, locals := 250 }) s m args below meth c H locs 0 0 Q (F0 m 41 ls [])) → ∀ (H : Heap) (locs : List Loc) (ls : Array Slot), Gd D (tyL cI cS) A s.heap s [(y, .inr (4, [.ref nw, .ref ad, .ref pa, .int sn, .ref eA, .long hs])), (nw, .inl (cI, 39, .inl f)), (ad, .inl (cI, 39, .inl g)), (pa, .inl (cI, 195, .inl pf)), (eA, .inl (cI, 3, .inl z))] H locs → lv_has ls 3 [(2, .int mi), (1, .int 1), (0, .ref y)] → W p l ev ({ frames := 6, cells := 0, slots := 0, locals := 250 }) s m args below meth c H locs 0 0 Q (F0 m 21 ls []) := by
  have hx := S.1
  have hb := S.2.1
  have hown : s.vm.findClass RX4 = some m.cls := S.2.2.2.1
  have hts := S.2.2.2.2
  intro n
  induction n with
  | zero =>
    intro mi hin hk H locs ls G hl
    refine lv_aload_n hx hb dX4_handsToCorrect_21 rfl (lv_at hl 2 rfl) ?_
    refine lv_iload_n hx hb dX4_handsToCorrect_22 rfl (lv_at hl 1 rfl) ?_
    refine lv_iload_n hx hb dX4_handsToCorrect_23 rfl (lv_at hl 0 rfl) ?_
    refine k_callV (n := 2) (As := [.int 1, .int mi]) (rest := []) (st1 := [.int (s_X4_lagAt_1 f mi)]) (ws1 := [(y, .inr (4, [.ref nw, .ref ad, .ref pa, .int sn, .ref eA, .long hs])), (nw, .inl (cI, 39, .inl f)), (ad, .inl (cI, 39, .inl g)), (pa, .inl (cI, 195, .inl pf)), (eA, .inl (cI, 3, .inl z))]) S G (c_X4_lagAt_1 l D cI cS y nw ad pa eA sn hs f g pf z mi) gX4_handsToCorrect_X4_lagAt rfl (by decide +kernel) ⟨⟨rfl, rfl⟩, Nat.le_of_ble_eq_true rfl, Nat.le_of_ble_eq_true rfl⟩ [0, 1, 2, 3, 4] (by decide) rfl [y, nw, ad, pa, eA] rfl rfl 0 rfl rfl rfl hl.1 rfl (Nat.le_of_ble_eq_true rfl) ⟨Nat.zero_le _, Nat.zero_le _⟩ dX4_handsToCorrect_24 rfl rfl (fun H locs G => ?_)
    refine lv_if_eq (tgt := 41) hx hb dX4_handsToCorrect_27 (by decide) (fun c_1 => ?_) (fun c_1 => absurd hin c_1)
    exact hk _ _ ls G (lv_sub hl [0] rfl)
  | succ n ih =>
    intro mi hin hk H locs ls G hl
    by_cases hz : (s_X4_lagAt_1 f mi) = 0
    · skip
      refine lv_aload_n hx hb dX4_handsToCorrect_21 rfl (lv_at hl 2 rfl) ?_
      refine lv_iload_n hx hb dX4_handsToCorrect_22 rfl (lv_at hl 1 rfl) ?_
      refine lv_iload_n hx hb dX4_handsToCorrect_23 rfl (lv_at hl 0 rfl) ?_
      refine k_callV (n := 2) (As := [.int 1, .int mi]) (rest := []) (st1 := [.int (s_X4_lagAt_1 f mi)]) (ws1 := [(y, .inr (4, [.ref nw, .ref ad, .ref pa, .int sn, .ref eA, .long hs])), (nw, .inl (cI, 39, .inl f)), (ad, .inl (cI, 39, .inl g)), (pa, .inl (cI, 195, .inl pf)), (eA, .inl (cI, 3, .inl z))]) S G (c_X4_lagAt_1 l D cI cS y nw ad pa eA sn hs f g pf z mi) gX4_handsToCorrect_X4_lagAt rfl (by decide +kernel) ⟨⟨rfl, rfl⟩, Nat.le_of_ble_eq_true rfl, Nat.le_of_ble_eq_true rfl⟩ [0, 1, 2, 3, 4] (by decide) rfl [y, nw, ad, pa, eA] rfl rfl 0 rfl rfl rfl hl.1 rfl (Nat.le_of_ble_eq_true rfl) ⟨Nat.zero_le _, Nat.zero_le _⟩ dX4_handsToCorrect_24 rfl rfl (fun H locs G => ?_)
      refine lv_if_eq (tgt := 41) hx hb dX4_handsToCorrect_27 (by decide) (fun c_1 => ?_) (fun c_1 => absurd hz c_1)
      have eL : htcM1 f (n + 1) mi = mi := by rw [htcM1, if_pos hz]
      rw [eL] at hk
      exact hk _ _ ls G (lv_sub hl [0] rfl)
    · skip
      refine lv_aload_n hx hb dX4_handsToCorrect_21 rfl (lv_at hl 2 rfl) ?_
      refine lv_iload_n hx hb dX4_handsToCorrect_22 rfl (lv_at hl 1 rfl) ?_
      refine lv_iload_n hx hb dX4_handsToCorrect_23 rfl (lv_at hl 0 rfl) ?_
      refine k_callV (n := 2) (As := [.int 1, .int mi]) (rest := []) (st1 := [.int (s_X4_lagAt_1 f mi)]) (ws1 := [(y, .inr (4, [.ref nw, .ref ad, .ref pa, .int sn, .ref eA, .long hs])), (nw, .inl (cI, 39, .inl f)), (ad, .inl (cI, 39, .inl g)), (pa, .inl (cI, 195, .inl pf)), (eA, .inl (cI, 3, .inl z))]) S G (c_X4_lagAt_1 l D cI cS y nw ad pa eA sn hs f g pf z mi) gX4_handsToCorrect_X4_lagAt rfl (by decide +kernel) ⟨⟨rfl, rfl⟩, Nat.le_of_ble_eq_true rfl, Nat.le_of_ble_eq_true rfl⟩ [0, 1, 2, 3, 4] (by decide) rfl [y, nw, ad, pa, eA] rfl rfl 0 rfl rfl rfl hl.1 rfl (Nat.le_of_ble_eq_true rfl) ⟨Nat.zero_le _, Nat.zero_le _⟩ dX4_handsToCorrect_24 rfl rfl (fun H locs G => ?_)
      refine lv_if_eq (tgt := 41) hx hb dX4_handsToCorrect_27 (by decide) (fun c_1 => absurd c_1 hz) (fun c_1 => ?_)
      refine lv_iload_n hx hb dX4_handsToCorrect_30 rfl (lv_at hl 0 rfl) ?_
      refine lv_iconst (v := 1) hx hb dX4_handsToCorrect_31 (by decide) ?_
      refine lv_iadd hx hb dX4_handsToCorrect_32 ?_
      refine lv_sipush (v := 1440) hx hb dX4_handsToCorrect_33 (by decide) ?_
      refine lv_irem hx hb dX4_handsToCorrect_36 (by decide) ?_
      refine lv_lit (v := (irem (mi + 1) 1440)) rfl ?_
      refine lv_istore_n (lv' := [(2, .int (irem (mi + 1) 1440)), (1, .int 1), (0, .ref y)]) hx hb dX4_handsToCorrect_37 rfl hl (by decide) rfl (fun ls hl => ?_)
      refine lv_goto (tgt := 21) hx hb dX4_handsToCorrect_38 (by decide) ?_
      have eL : htcM1 f (n + 1) mi = htcM1 f n (irem (mi + 1) 1440) := by rw [htcM1, if_neg hz]
      rw [eL] at hk hin
      exact ih (irem (mi + 1) 1440) hin hk _ _ ls G (lv_sub hl [0, 1, 2] rfl)
def s_X4_handsToCorrect (f : Nat → Int32) (z : Nat → Int32) (tn : Int32) : Int32 × (Nat → Int32) := (if tn = 0 then ((htcM0 f 1440 (f 0)), z) else (if tn = 1 then ((htcM1 f 1440 (f 0)), z) else ((-2), (upd z 0 ((z 0) + 1)))))
set_option maxHeartbeats 4000000 in
set_option maxRecDepth 100000 in
theorem c_X4_handsToCorrect (l : Launch) (D : va_G) (cI cS : ClassId) (y : Nat) (nw : Nat) (ad : Nat) (pa : Nat) (eA : Nat) (sn : Int32) (hs : Int64) (f : Nat → Int32) (g : Nat → Int32) (pf : Nat → Int32) (z : Nat → Int32) (tn : Int32) (hh0 : s_X4_lagAt_0 f (htcM0 f 1440 (f 0)) = 0) (hh1 : s_X4_lagAt_1 f (htcM1 f 1440 (f 0)) = 0) : Ct l yX4_handsToCorrect wsX4_handsToCorrect ({ frames := 6, cells := 0, slots := 0, locals := 250 }) D (tyL cI cS) [.ref y, .int tn] [(y, .inr (4, [.ref nw, .ref ad, .ref pa, .int sn, .ref eA, .long hs])), (nw, .inl (cI, 39, .inl f)), (ad, .inl (cI, 39, .inl g)), (pa, .inl (cI, 195, .inl pf)), (eA, .inl (cI, 3, .inl z))] (some (.int ((s_X4_handsToCorrect f z tn).1))) [(y, .inr (4, [.ref nw, .ref ad, .ref pa, .int sn, .ref eA, .long hs])), (nw, .inl (cI, 39, .inl f)), (ad, .inl (cI, 39, .inl g)), (pa, .inl (cI, 195, .inl pf)), (eA, .inl (cI, 3, .inl ((s_X4_handsToCorrect f z tn).2)))] := by
  refine Ct.of (cc := cX4_handsToCorrect) (maxL := 3) (ret := (some .int)) (by decide) rfl (Nat.le_of_ble_eq_true rfl) ?_
  intro p ev s m args below meth c A ls S hr hlk G hl
  have hx := S.1
  have hb := S.2.1
  have hown : s.vm.findClass RX4 = some m.cls := S.2.2.2.1
  have hts := S.2.2.2.2
  have hl : lv_has ls 3 [(0, .ref y), (1, .int tn)] := hl
  have hiX4 : ∀ w ∈ wsX40, w ∈ wsX4_handsToCorrect := by decide +kernel
  have hf7 := hts (.fieldLink RX4 7 "StrikingWorkModel" "now" "[I") (by decide +kernel)
  by_cases c_1 : tn = 0
  · skip
    have hl : lv_has ls 3 [(0, .ref y), (1, .int 0)] := by rw [c_1] at hl; exact hl
    refine lv_iload_n hx hb dX4_handsToCorrect_0 rfl (lv_at hl 1 rfl) ?_
    refine k_callS (n := 1) (As := [.int 0]) (rest := []) (st1 := [.int 1]) (ws1 := [(y, .inr (4, [.ref nw, .ref ad, .ref pa, .int sn, .ref eA, .long hs])), (nw, .inl (cI, 39, .inl f)), (ad, .inl (cI, 39, .inl g)), (pa, .inl (cI, 195, .inl pf)), (eA, .inl (cI, 3, .inl z))]) S G (c_X4_isTrain l D cI cS 0) gX4_handsToCorrect_X4_isTrain rfl (by decide +kernel) ⟨⟨rfl, rfl⟩, Nat.le_of_ble_eq_true rfl, Nat.le_of_ble_eq_true rfl⟩ [] (by decide) rfl [] rfl rfl rfl hl.1 rfl (Nat.le_of_ble_eq_true rfl) ⟨Nat.zero_le _, Nat.zero_le _⟩ dX4_handsToCorrect_1 (congrArg (fun z => Value.int z :: []) (by decide : (s_X4_isTrain 0) = 1)) rfl (fun H locs G => ?_)
    refine lv_if_ne (tgt := 14) hx hb dX4_handsToCorrect_4 (by decide) (fun c_2 => ?_) (fun c_2 => absurd c_2 (by decide))
    refine lv_aload_n hx hb dX4_handsToCorrect_14 rfl (lv_at hl 0 rfl) ?_
    refine k_get (v := .ref nw) S G 0 rfl rfl hiX4 0 (by decide) hf7 rfl dX4_handsToCorrect_15 ?_
    refine lv_iconst (v := 0) hx hb dX4_handsToCorrect_18 (by decide) ?_
    refine k_iald (x := (f 0)) S G 1 0 rfl rfl (by unfold vp_in; decide) rfl dX4_handsToCorrect_19 ?_
    refine lv_istore_n (lv' := [(2, .int (f 0)), (0, .ref y), (1, .int 0)]) hx hb dX4_handsToCorrect_20 rfl hl (by decide) rfl (fun ls hl => ?_)
    refine lp_X4_htc_0 l D cI cS y nw ad pa eA sn hs f g pf z S 1440 (f 0) hh0 (fun H locs ls G hl => ?_) _ _ ls G (lv_sub hl [0, 2, 1] rfl)
    refine lv_iload_n hx hb dX4_handsToCorrect_41 rfl (lv_at hl 0 rfl) ?_
    have es : (s_X4_handsToCorrect f z tn) = ((htcM0 f 1440 (f 0)), z) := by rw [s_X4_handsToCorrect, if_pos c_1]
    exact k_iret S G hr hlk dX4_handsToCorrect_42 (by first | (rw [es]; done) | (rw [es]; rfl) | (simp only [es]; done) | (simp only [es]; rfl)) (by first | (rw [es]; done) | (rw [es]; rfl) | (simp only [es]; done) | (simp only [es]; rfl))
  · skip
    by_cases c_3 : tn = 1
    · skip
      have hl : lv_has ls 3 [(0, .ref y), (1, .int 1)] := by rw [c_3] at hl; exact hl
      refine lv_iload_n hx hb dX4_handsToCorrect_0 rfl (lv_at hl 1 rfl) ?_
      refine k_callS (n := 1) (As := [.int 1]) (rest := []) (st1 := [.int 1]) (ws1 := [(y, .inr (4, [.ref nw, .ref ad, .ref pa, .int sn, .ref eA, .long hs])), (nw, .inl (cI, 39, .inl f)), (ad, .inl (cI, 39, .inl g)), (pa, .inl (cI, 195, .inl pf)), (eA, .inl (cI, 3, .inl z))]) S G (c_X4_isTrain l D cI cS 1) gX4_handsToCorrect_X4_isTrain rfl (by decide +kernel) ⟨⟨rfl, rfl⟩, Nat.le_of_ble_eq_true rfl, Nat.le_of_ble_eq_true rfl⟩ [] (by decide) rfl [] rfl rfl rfl hl.1 rfl (Nat.le_of_ble_eq_true rfl) ⟨Nat.zero_le _, Nat.zero_le _⟩ dX4_handsToCorrect_1 (congrArg (fun z => Value.int z :: []) (by decide : (s_X4_isTrain 1) = 1)) rfl (fun H locs G => ?_)
      refine lv_if_ne (tgt := 14) hx hb dX4_handsToCorrect_4 (by decide) (fun c_4 => ?_) (fun c_4 => absurd c_4 (by decide))
      refine lv_aload_n hx hb dX4_handsToCorrect_14 rfl (lv_at hl 0 rfl) ?_
      refine k_get (v := .ref nw) S G 0 rfl rfl hiX4 0 (by decide) hf7 rfl dX4_handsToCorrect_15 ?_
      refine lv_iconst (v := 0) hx hb dX4_handsToCorrect_18 (by decide) ?_
      refine k_iald (x := (f 0)) S G 1 0 rfl rfl (by unfold vp_in; decide) rfl dX4_handsToCorrect_19 ?_
      refine lv_istore_n (lv' := [(2, .int (f 0)), (0, .ref y), (1, .int 1)]) hx hb dX4_handsToCorrect_20 rfl hl (by decide) rfl (fun ls hl => ?_)
      refine lp_X4_htc_1 l D cI cS y nw ad pa eA sn hs f g pf z S 1440 (f 0) hh1 (fun H locs ls G hl => ?_) _ _ ls G (lv_sub hl [0, 2, 1] rfl)
      refine lv_iload_n hx hb dX4_handsToCorrect_41 rfl (lv_at hl 0 rfl) ?_
      have es : (s_X4_handsToCorrect f z tn) = ((htcM1 f 1440 (f 0)), z) := by rw [s_X4_handsToCorrect, if_neg c_1, if_pos c_3]
      exact k_iret S G hr hlk dX4_handsToCorrect_42 (by first | (rw [es]; done) | (rw [es]; rfl) | (simp only [es]; done) | (simp only [es]; rfl)) (by first | (rw [es]; done) | (rw [es]; rfl) | (simp only [es]; done) | (simp only [es]; rfl))
    · skip
      refine lv_iload_n hx hb dX4_handsToCorrect_0 rfl (lv_at hl 1 rfl) ?_
      refine k_callS (n := 1) (As := [.int tn]) (rest := []) (st1 := [.int 0]) (ws1 := [(y, .inr (4, [.ref nw, .ref ad, .ref pa, .int sn, .ref eA, .long hs])), (nw, .inl (cI, 39, .inl f)), (ad, .inl (cI, 39, .inl g)), (pa, .inl (cI, 195, .inl pf)), (eA, .inl (cI, 3, .inl z))]) S G (c_X4_isTrain l D cI cS tn) gX4_handsToCorrect_X4_isTrain rfl (by decide +kernel) ⟨⟨rfl, rfl⟩, Nat.le_of_ble_eq_true rfl, Nat.le_of_ble_eq_true rfl⟩ [] (by decide) rfl [] rfl rfl rfl hl.1 rfl (Nat.le_of_ble_eq_true rfl) ⟨Nat.zero_le _, Nat.zero_le _⟩ dX4_handsToCorrect_1 (congrArg (fun z => Value.int z :: []) (X4_isTrain_else c_1 c_3)) rfl (fun H locs G => ?_)
      refine lv_if_ne (tgt := 14) hx hb dX4_handsToCorrect_4 (by decide) (fun c_5 => absurd c_5 (by decide)) (fun c_5 => ?_)
      refine lv_aload_n hx hb dX4_handsToCorrect_7 rfl (lv_at hl 0 rfl) ?_
      refine lv_bipush (v := (-2)) hx hb dX4_handsToCorrect_8 (by decide) ?_
      refine k_callV (n := 1) (As := [.int (-2)]) (rest := []) (st1 := [.int (-2)]) (ws1 := [(y, .inr (4, [.ref nw, .ref ad, .ref pa, .int sn, .ref eA, .long hs])), (nw, .inl (cI, 39, .inl f)), (ad, .inl (cI, 39, .inl g)), (pa, .inl (cI, 195, .inl pf)), (eA, .inl (cI, 3, .inl (upd z 0 ((z 0) + 1))))]) S G (c_X4_error_2 l D cI cS y nw ad pa eA sn hs f g pf z) gX4_handsToCorrect_X4_error rfl (by decide +kernel) ⟨⟨rfl, rfl⟩, Nat.le_of_ble_eq_true rfl, Nat.le_of_ble_eq_true rfl⟩ [0, 1, 2, 3, 4] (by decide) rfl [y, nw, ad, pa, eA] rfl rfl 0 rfl rfl rfl hl.1 rfl (Nat.le_of_ble_eq_true rfl) ⟨Nat.zero_le _, Nat.zero_le _⟩ dX4_handsToCorrect_10 rfl rfl (fun H locs G => ?_)
      have es : (s_X4_handsToCorrect f z tn) = ((-2), (upd z 0 ((z 0) + 1))) := by rw [s_X4_handsToCorrect, if_neg c_1, if_neg c_3]
      exact k_iret S G hr hlk dX4_handsToCorrect_13 (by first | (rw [es]; done) | (rw [es]; rfl) | (simp only [es]; done) | (simp only [es]; rfl)) (by first | (rw [es]; done) | (rw [es]; rfl) | (simp only [es]; done) | (simp only [es]; rfl))
/-- the model's minutes until a miss: fuel n, at minute k -/
def mmM (pl : Nat) (g : Nat → Int32) : Nat → Nat → (Nat → Int32) → Int32 × (Nat → Int32)
  | 0, _, f => (-1, f)
  | n + 1, k, f => if 20000 < k then (-1, f) else if (s_X4_tick f).2 pl ≤ g pl then mmM pl g n (k + 1) (s_X4_tick f).2 else (nI k, (s_X4_tick f).2)
theorem nI_ne_m1 {k : Nat} (h : k < 2 ^ 31) : ¬ nI k = (-1) := by
  intro e
  have := congrArg Int32.toInt e
  rw [nI_toInt h] at this
  have e2 : (-1 : Int32).toInt = -1 := by decide
  rw [e2] at this
  omega
theorem cpy_same (F G : Nat → Int32) {i : Nat} (h : i < 39) : va_cpy F G 0 0 39 i = F i := by
  rw [pk_cpy_in (by omega) (by omega)]
  congr 1
  omega
set_option maxHeartbeats 4000000 in
set_option maxRecDepth 100000 in
theorem lp_X4_mm_0 (l : Launch) (D : va_G) (cI cS : ClassId) (y : Nat) (nw : Nat) (ad : Nat) (pa : Nat) (eA : Nat) (sn : Int32) (hs : Int64) (g : Nat → Int32) (pf : Nat → Int32) (z : Nat → Int32) {p : Program} {ev : Env} {s : State} {m : MethodId} {args : Array Value} {below : List Frame} {meth : Method} {c : Code} {A : Nat → Prop} {Q : State → Prop} (S : CallFix p m c cX4_minutesToMiss 6 s args wsX4_minutesToMiss RX4)  :
    ∀ (n k : Nat) (f : Nat → Int32), 20000 < k + n → k ≤ 20001 → (∀ (H : Heap) (locs : List Loc) (ls : Array Slot), Gd D (tyL cI cS) A s.heap s [(y, .inr (4, [.ref nw, .ref ad, .ref pa, .int sn, .ref eA, .long hs])), (nw, .inl (cI, 39, .inl ((mmM 8 g n k f).2))), (ad, .inl (cI, 39, .inl g)), (pa, .inl (cI, 195, .inl pf)), (eA, .inl (cI, 3, .inl z))] H locs → lv_has ls 6 [(3, .int (mmM 8 g n k f).1), (0, .ref y)] → W p l ev ({ frames := 6, cells := 0, slots := 0, locals := 250 }) s m args below meth c H locs 0 0 Q (F0 m 85 ls [])) → ∀ (H : Heap) (locs : List Loc) (ls : Array Slot), Gd D (tyL cI cS) A s.heap s [(y, .inr (4, [.ref nw, .ref ad, .ref pa, .int sn, .ref eA, .long hs])), (nw, .inl (cI, 39, .inl f)), (ad, .inl (cI, 39, .inl g)), (pa, .inl (cI, 195, .inl pf)), (eA, .inl (cI, 3, .inl z))] H locs → lv_has ls 6 [(4, .int (nI k)), (3, .int (-1)), (2, .int 8), (0, .ref y)] → W p l ev ({ frames := 6, cells := 0, slots := 0, locals := 250 }) s m args below meth c H locs 0 0 Q (F0 m 38 ls []) := by
  have hx := S.1
  have hb := S.2.1
  have hown : s.vm.findClass RX4 = some m.cls := S.2.2.2.1
  have hts := S.2.2.2.2
  have hiX4 : ∀ w ∈ wsX40, w ∈ wsX4_minutesToMiss := by decide +kernel
  have hf7 := hts (.fieldLink RX4 7 "StrikingWorkModel" "now" "[I") (by decide +kernel)
  have hf13 := hts (.fieldLink RX4 13 "StrikingWorkModel" "aside" "[I") (by decide +kernel)
  intro n
  induction n with
  | zero =>
    intro k f hf hk2 hk H locs ls G hl
    refine lv_iload hx hb dX4_minutesToMiss_38 (lv_at hl 0 rfl) ?_
    refine lv_sipush (v := 20000) hx hb dX4_minutesToMiss_40 (by decide) ?_
    refine lv_icmp_gt (tgt := 85) hx hb dX4_minutesToMiss_43 (by decide) (fun c_1 => ?_) (fun c_1 => absurd (show (20000 : Int32) < nI k from nI_lt (a := 20000) (by omega) (by omega)) c_1)
    exact hk _ _ ls G (lv_sub hl [1, 3] rfl)
  | succ n ih =>
    intro k f hf hk2 hk H locs ls G hl
    rcases Nat.lt_or_ge 20000 k with hlt | hge
    · skip
      refine lv_iload hx hb dX4_minutesToMiss_38 (lv_at hl 0 rfl) ?_
      refine lv_sipush (v := 20000) hx hb dX4_minutesToMiss_40 (by decide) ?_
      refine lv_icmp_gt (tgt := 85) hx hb dX4_minutesToMiss_43 (by decide) (fun c_1 => ?_) (fun c_1 => absurd (show (20000 : Int32) < nI k from nI_lt (a := 20000) (by omega) (by omega)) c_1)
      have eL : mmM 8 g (n + 1) k f = (-1, f) := by rw [mmM, if_pos hlt]
      rw [eL] at hk
      exact hk _ _ ls G (lv_sub hl [1, 3] rfl)
    · skip
      refine lv_iload hx hb dX4_minutesToMiss_38 (lv_at hl 0 rfl) ?_
      refine lv_sipush (v := 20000) hx hb dX4_minutesToMiss_40 (by decide) ?_
      refine lv_icmp_gt (tgt := 85) hx hb dX4_minutesToMiss_43 (by decide) (fun c_1 => absurd c_1 (show ¬ (20000 : Int32) < nI k from nI_nlt (a := 20000) hge (by omega))) (fun c_1 => ?_)
      refine lv_iload_n hx hb dX4_minutesToMiss_46 rfl (lv_at hl 1 rfl) ?_
      refine lv_iconst (v := (-1)) hx hb dX4_minutesToMiss_47 (by decide) ?_
      refine lv_icmp_ne (tgt := 85) hx hb dX4_minutesToMiss_48 (by decide) (fun c_2 => absurd c_2 (by decide)) (fun c_2 => ?_)
      refine lv_aload_n hx hb dX4_minutesToMiss_51 rfl (lv_at hl 3 rfl) ?_
      refine k_callV (n := 0) (As := []) (rest := []) (st1 := [.int ((s_X4_tick f).1)]) (ws1 := [(y, .inr (4, [.ref nw, .ref ad, .ref pa, .int sn, .ref eA, .long hs])), (nw, .inl (cI, 39, .inl ((s_X4_tick f).2))), (ad, .inl (cI, 39, .inl g)), (pa, .inl (cI, 195, .inl pf)), (eA, .inl (cI, 3, .inl z))]) S G (c_X4_tick l D cI cS y nw ad pa eA sn hs f g pf z) gX4_minutesToMiss_X4_tick rfl (by decide +kernel) ⟨⟨rfl, rfl⟩, Nat.le_of_ble_eq_true rfl, Nat.le_of_ble_eq_true rfl⟩ [0, 1, 2, 3, 4] (by decide) rfl [y, nw, ad, pa, eA] rfl rfl 0 rfl rfl rfl hl.1 rfl (Nat.le_of_ble_eq_true rfl) ⟨Nat.zero_le _, Nat.zero_le _⟩ dX4_minutesToMiss_52 rfl rfl (fun H locs G => ?_)
      generalize hu1 : (s_X4_tick f) = u1 at G ⊢
      refine lv_istore (lv' := [(5, .int u1.1), (4, .int (nI k)), (3, .int (-1)), (2, .int 8), (0, .ref y)]) hx hb dX4_minutesToMiss_55 hl (by decide) rfl (fun ls hl => ?_)
      refine lv_aload_n hx hb dX4_minutesToMiss_57 rfl (lv_at hl 4 rfl) ?_
      refine k_get (v := .ref nw) S G 0 rfl rfl hiX4 0 (by decide) hf7 rfl dX4_minutesToMiss_58 ?_
      refine lv_iload_n hx hb dX4_minutesToMiss_61 rfl (lv_at hl 3 rfl) ?_
      refine k_iald (x := (u1.2 8)) S G 1 0 rfl rfl (by unfold vp_in; decide) rfl dX4_minutesToMiss_62 ?_
      refine lv_aload_n hx hb dX4_minutesToMiss_63 rfl (lv_at hl 4 rfl) ?_
      refine k_get (v := .ref ad) S G 0 rfl rfl hiX4 1 (by decide) hf13 rfl dX4_minutesToMiss_64 ?_
      refine lv_iload_n hx hb dX4_minutesToMiss_67 rfl (lv_at hl 3 rfl) ?_
      refine k_iald (x := (g 8)) S G 2 0 rfl rfl (by unfold vp_in; decide) rfl dX4_minutesToMiss_68 ?_
      refine lv_icmp_le (tgt := 77) hx hb dX4_minutesToMiss_69 (by decide) (fun c_3 => ?_) (fun c_3 => ?_)
      · skip
        refine lv_iconst (v := (-1)) hx hb dX4_minutesToMiss_77 (by decide) ?_
        refine lv_istore_n (lv' := [(3, .int (-1)), (5, .int u1.1), (4, .int (nI k)), (2, .int 8), (0, .ref y)]) hx hb dX4_minutesToMiss_78 rfl hl (by decide) rfl (fun ls hl => ?_)
        refine lv_iinc (v := (nI (k + 1))) (lv' := [(4, .int (nI (k + 1))), (3, .int (-1)), (5, .int u1.1), (2, .int 8), (0, .ref y)]) hx hb dX4_minutesToMiss_79 hl (k := 2) rfl (nI_1 k) (by decide) rfl (fun ls hl => ?_)
        refine lv_goto (tgt := 38) hx hb dX4_minutesToMiss_82 (by decide) ?_
        have eL : mmM 8 g (n + 1) k f = mmM 8 g n (k + 1) u1.2 := by rw [mmM, if_neg (Nat.not_lt.mpr hge), hu1, if_pos c_3]
        rw [eL] at hk
        exact ih (k + 1) u1.2 (by omega) (by omega) hk _ _ ls G (lv_sub hl [0, 1, 3, 4] rfl)
      · skip
        refine lv_iload hx hb dX4_minutesToMiss_72 (lv_at hl 1 rfl) ?_
        refine lv_goto (tgt := 78) hx hb dX4_minutesToMiss_74 (by decide) ?_
        refine lv_istore_n (lv' := [(3, .int (nI k)), (5, .int u1.1), (4, .int (nI k)), (2, .int 8), (0, .ref y)]) hx hb dX4_minutesToMiss_78 rfl hl (by decide) rfl (fun ls hl => ?_)
        refine lv_iinc (v := (nI (k + 1))) (lv' := [(4, .int (nI (k + 1))), (3, .int (nI k)), (5, .int u1.1), (2, .int 8), (0, .ref y)]) hx hb dX4_minutesToMiss_79 hl (k := 2) rfl (nI_1 k) (by decide) rfl (fun ls hl => ?_)
        refine lv_goto (tgt := 38) hx hb dX4_minutesToMiss_82 (by decide) ?_
        have eL : mmM 8 g (n + 1) k f = (nI k, u1.2) := by rw [mmM, if_neg (Nat.not_lt.mpr hge), hu1, if_neg c_3]
        rw [eL] at hk
        rcases Nat.lt_or_ge 20000 (k + 1) with h5 | h5
        · skip
          refine lv_iload hx hb dX4_minutesToMiss_38 (lv_at hl 0 rfl) ?_
          refine lv_sipush (v := 20000) hx hb dX4_minutesToMiss_40 (by decide) ?_
          refine lv_icmp_gt (tgt := 85) hx hb dX4_minutesToMiss_43 (by decide) (fun c_4 => ?_) (fun c_4 => absurd (show (20000 : Int32) < nI (k + 1) from nI_lt (a := 20000) h5 (by omega)) c_4)
          exact hk _ _ ls G (lv_sub hl [1, 4] rfl)
        · skip
          refine lv_iload hx hb dX4_minutesToMiss_38 (lv_at hl 0 rfl) ?_
          refine lv_sipush (v := 20000) hx hb dX4_minutesToMiss_40 (by decide) ?_
          refine lv_icmp_gt (tgt := 85) hx hb dX4_minutesToMiss_43 (by decide) (fun c_5 => absurd c_5 (show ¬ (20000 : Int32) < nI (k + 1) from nI_nlt (a := 20000) h5 (by omega))) (fun c_5 => ?_)
          refine lv_iload_n hx hb dX4_minutesToMiss_46 rfl (lv_at hl 1 rfl) ?_
          refine lv_iconst (v := (-1)) hx hb dX4_minutesToMiss_47 (by decide) ?_
          refine lv_icmp_ne (tgt := 85) hx hb dX4_minutesToMiss_48 (by decide) (fun c_6 => ?_) (fun c_6 => absurd c_6 (nI_ne_m1 (by omega)))
          exact hk _ _ ls G (lv_sub hl [1, 4] rfl)
set_option maxHeartbeats 4000000 in
set_option maxRecDepth 100000 in
theorem lp_X4_mm_1 (l : Launch) (D : va_G) (cI cS : ClassId) (y : Nat) (nw : Nat) (ad : Nat) (pa : Nat) (eA : Nat) (sn : Int32) (hs : Int64) (g : Nat → Int32) (pf : Nat → Int32) (z : Nat → Int32) {p : Program} {ev : Env} {s : State} {m : MethodId} {args : Array Value} {below : List Frame} {meth : Method} {c : Code} {A : Nat → Prop} {Q : State → Prop} (S : CallFix p m c cX4_minutesToMiss 6 s args wsX4_minutesToMiss RX4)  :
    ∀ (n k : Nat) (f : Nat → Int32), 20000 < k + n → k ≤ 20001 → (∀ (H : Heap) (locs : List Loc) (ls : Array Slot), Gd D (tyL cI cS) A s.heap s [(y, .inr (4, [.ref nw, .ref ad, .ref pa, .int sn, .ref eA, .long hs])), (nw, .inl (cI, 39, .inl ((mmM 13 g n k f).2))), (ad, .inl (cI, 39, .inl g)), (pa, .inl (cI, 195, .inl pf)), (eA, .inl (cI, 3, .inl z))] H locs → lv_has ls 6 [(3, .int (mmM 13 g n k f).1), (0, .ref y)] → W p l ev ({ frames := 6, cells := 0, slots := 0, locals := 250 }) s m args below meth c H locs 0 0 Q (F0 m 85 ls [])) → ∀ (H : Heap) (locs : List Loc) (ls : Array Slot), Gd D (tyL cI cS) A s.heap s [(y, .inr (4, [.ref nw, .ref ad, .ref pa, .int sn, .ref eA, .long hs])), (nw, .inl (cI, 39, .inl f)), (ad, .inl (cI, 39, .inl g)), (pa, .inl (cI, 195, .inl pf)), (eA, .inl (cI, 3, .inl z))] H locs → lv_has ls 6 [(4, .int (nI k)), (3, .int (-1)), (2, .int 13), (0, .ref y)] → W p l ev ({ frames := 6, cells := 0, slots := 0, locals := 250 }) s m args below meth c H locs 0 0 Q (F0 m 38 ls []) := by
  have hx := S.1
  have hb := S.2.1
  have hown : s.vm.findClass RX4 = some m.cls := S.2.2.2.1
  have hts := S.2.2.2.2
  have hiX4 : ∀ w ∈ wsX40, w ∈ wsX4_minutesToMiss := by decide +kernel
  have hf7 := hts (.fieldLink RX4 7 "StrikingWorkModel" "now" "[I") (by decide +kernel)
  have hf13 := hts (.fieldLink RX4 13 "StrikingWorkModel" "aside" "[I") (by decide +kernel)
  intro n
  induction n with
  | zero =>
    intro k f hf hk2 hk H locs ls G hl
    refine lv_iload hx hb dX4_minutesToMiss_38 (lv_at hl 0 rfl) ?_
    refine lv_sipush (v := 20000) hx hb dX4_minutesToMiss_40 (by decide) ?_
    refine lv_icmp_gt (tgt := 85) hx hb dX4_minutesToMiss_43 (by decide) (fun c_1 => ?_) (fun c_1 => absurd (show (20000 : Int32) < nI k from nI_lt (a := 20000) (by omega) (by omega)) c_1)
    exact hk _ _ ls G (lv_sub hl [1, 3] rfl)
  | succ n ih =>
    intro k f hf hk2 hk H locs ls G hl
    rcases Nat.lt_or_ge 20000 k with hlt | hge
    · skip
      refine lv_iload hx hb dX4_minutesToMiss_38 (lv_at hl 0 rfl) ?_
      refine lv_sipush (v := 20000) hx hb dX4_minutesToMiss_40 (by decide) ?_
      refine lv_icmp_gt (tgt := 85) hx hb dX4_minutesToMiss_43 (by decide) (fun c_1 => ?_) (fun c_1 => absurd (show (20000 : Int32) < nI k from nI_lt (a := 20000) (by omega) (by omega)) c_1)
      have eL : mmM 13 g (n + 1) k f = (-1, f) := by rw [mmM, if_pos hlt]
      rw [eL] at hk
      exact hk _ _ ls G (lv_sub hl [1, 3] rfl)
    · skip
      refine lv_iload hx hb dX4_minutesToMiss_38 (lv_at hl 0 rfl) ?_
      refine lv_sipush (v := 20000) hx hb dX4_minutesToMiss_40 (by decide) ?_
      refine lv_icmp_gt (tgt := 85) hx hb dX4_minutesToMiss_43 (by decide) (fun c_1 => absurd c_1 (show ¬ (20000 : Int32) < nI k from nI_nlt (a := 20000) hge (by omega))) (fun c_1 => ?_)
      refine lv_iload_n hx hb dX4_minutesToMiss_46 rfl (lv_at hl 1 rfl) ?_
      refine lv_iconst (v := (-1)) hx hb dX4_minutesToMiss_47 (by decide) ?_
      refine lv_icmp_ne (tgt := 85) hx hb dX4_minutesToMiss_48 (by decide) (fun c_2 => absurd c_2 (by decide)) (fun c_2 => ?_)
      refine lv_aload_n hx hb dX4_minutesToMiss_51 rfl (lv_at hl 3 rfl) ?_
      refine k_callV (n := 0) (As := []) (rest := []) (st1 := [.int ((s_X4_tick f).1)]) (ws1 := [(y, .inr (4, [.ref nw, .ref ad, .ref pa, .int sn, .ref eA, .long hs])), (nw, .inl (cI, 39, .inl ((s_X4_tick f).2))), (ad, .inl (cI, 39, .inl g)), (pa, .inl (cI, 195, .inl pf)), (eA, .inl (cI, 3, .inl z))]) S G (c_X4_tick l D cI cS y nw ad pa eA sn hs f g pf z) gX4_minutesToMiss_X4_tick rfl (by decide +kernel) ⟨⟨rfl, rfl⟩, Nat.le_of_ble_eq_true rfl, Nat.le_of_ble_eq_true rfl⟩ [0, 1, 2, 3, 4] (by decide) rfl [y, nw, ad, pa, eA] rfl rfl 0 rfl rfl rfl hl.1 rfl (Nat.le_of_ble_eq_true rfl) ⟨Nat.zero_le _, Nat.zero_le _⟩ dX4_minutesToMiss_52 rfl rfl (fun H locs G => ?_)
      generalize hu1 : (s_X4_tick f) = u1 at G ⊢
      refine lv_istore (lv' := [(5, .int u1.1), (4, .int (nI k)), (3, .int (-1)), (2, .int 13), (0, .ref y)]) hx hb dX4_minutesToMiss_55 hl (by decide) rfl (fun ls hl => ?_)
      refine lv_aload_n hx hb dX4_minutesToMiss_57 rfl (lv_at hl 4 rfl) ?_
      refine k_get (v := .ref nw) S G 0 rfl rfl hiX4 0 (by decide) hf7 rfl dX4_minutesToMiss_58 ?_
      refine lv_iload_n hx hb dX4_minutesToMiss_61 rfl (lv_at hl 3 rfl) ?_
      refine k_iald (x := (u1.2 13)) S G 1 0 rfl rfl (by unfold vp_in; decide) rfl dX4_minutesToMiss_62 ?_
      refine lv_aload_n hx hb dX4_minutesToMiss_63 rfl (lv_at hl 4 rfl) ?_
      refine k_get (v := .ref ad) S G 0 rfl rfl hiX4 1 (by decide) hf13 rfl dX4_minutesToMiss_64 ?_
      refine lv_iload_n hx hb dX4_minutesToMiss_67 rfl (lv_at hl 3 rfl) ?_
      refine k_iald (x := (g 13)) S G 2 0 rfl rfl (by unfold vp_in; decide) rfl dX4_minutesToMiss_68 ?_
      refine lv_icmp_le (tgt := 77) hx hb dX4_minutesToMiss_69 (by decide) (fun c_3 => ?_) (fun c_3 => ?_)
      · skip
        refine lv_iconst (v := (-1)) hx hb dX4_minutesToMiss_77 (by decide) ?_
        refine lv_istore_n (lv' := [(3, .int (-1)), (5, .int u1.1), (4, .int (nI k)), (2, .int 13), (0, .ref y)]) hx hb dX4_minutesToMiss_78 rfl hl (by decide) rfl (fun ls hl => ?_)
        refine lv_iinc (v := (nI (k + 1))) (lv' := [(4, .int (nI (k + 1))), (3, .int (-1)), (5, .int u1.1), (2, .int 13), (0, .ref y)]) hx hb dX4_minutesToMiss_79 hl (k := 2) rfl (nI_1 k) (by decide) rfl (fun ls hl => ?_)
        refine lv_goto (tgt := 38) hx hb dX4_minutesToMiss_82 (by decide) ?_
        have eL : mmM 13 g (n + 1) k f = mmM 13 g n (k + 1) u1.2 := by rw [mmM, if_neg (Nat.not_lt.mpr hge), hu1, if_pos c_3]
        rw [eL] at hk
        exact ih (k + 1) u1.2 (by omega) (by omega) hk _ _ ls G (lv_sub hl [0, 1, 3, 4] rfl)
      · skip
        refine lv_iload hx hb dX4_minutesToMiss_72 (lv_at hl 1 rfl) ?_
        refine lv_goto (tgt := 78) hx hb dX4_minutesToMiss_74 (by decide) ?_
        refine lv_istore_n (lv' := [(3, .int (nI k)), (5, .int u1.1), (4, .int (nI k)), (2, .int 13), (0, .ref y)]) hx hb dX4_minutesToMiss_78 rfl hl (by decide) rfl (fun ls hl => ?_)
        refine lv_iinc (v := (nI (k + 1))) (lv' := [(4, .int (nI (k + 1))), (3, .int (nI k)), (5, .int u1.1), (2, .int 13), (0, .ref y)]) hx hb dX4_minutesToMiss_79 hl (k := 2) rfl (nI_1 k) (by decide) rfl (fun ls hl => ?_)
        refine lv_goto (tgt := 38) hx hb dX4_minutesToMiss_82 (by decide) ?_
        have eL : mmM 13 g (n + 1) k f = (nI k, u1.2) := by rw [mmM, if_neg (Nat.not_lt.mpr hge), hu1, if_neg c_3]
        rw [eL] at hk
        rcases Nat.lt_or_ge 20000 (k + 1) with h5 | h5
        · skip
          refine lv_iload hx hb dX4_minutesToMiss_38 (lv_at hl 0 rfl) ?_
          refine lv_sipush (v := 20000) hx hb dX4_minutesToMiss_40 (by decide) ?_
          refine lv_icmp_gt (tgt := 85) hx hb dX4_minutesToMiss_43 (by decide) (fun c_4 => ?_) (fun c_4 => absurd (show (20000 : Int32) < nI (k + 1) from nI_lt (a := 20000) h5 (by omega)) c_4)
          exact hk _ _ ls G (lv_sub hl [1, 4] rfl)
        · skip
          refine lv_iload hx hb dX4_minutesToMiss_38 (lv_at hl 0 rfl) ?_
          refine lv_sipush (v := 20000) hx hb dX4_minutesToMiss_40 (by decide) ?_
          refine lv_icmp_gt (tgt := 85) hx hb dX4_minutesToMiss_43 (by decide) (fun c_5 => absurd c_5 (show ¬ (20000 : Int32) < nI (k + 1) from nI_nlt (a := 20000) h5 (by omega))) (fun c_5 => ?_)
          refine lv_iload_n hx hb dX4_minutesToMiss_46 rfl (lv_at hl 1 rfl) ?_
          refine lv_iconst (v := (-1)) hx hb dX4_minutesToMiss_47 (by decide) ?_
          refine lv_icmp_ne (tgt := 85) hx hb dX4_minutesToMiss_48 (by decide) (fun c_6 => ?_) (fun c_6 => absurd c_6 (nI_ne_m1 (by omega)))
          exact hk _ _ ls G (lv_sub hl [1, 4] rfl)
def s_X4_minutesToMiss (f : Nat → Int32) (g : Nat → Int32) (z : Nat → Int32) (tn : Int32) : Int32 × (Nat → Int32) × (Nat → Int32) := (if tn = 0 then ((mmM 8 f 20001 1 f).1, f, z) else (if tn = 1 then ((mmM 13 f 20001 1 f).1, f, z) else ((-2), g, (upd z 0 ((z 0) + 1)))))
set_option maxHeartbeats 4000000 in
set_option maxRecDepth 100000 in
theorem c_X4_minutesToMiss (l : Launch) (D : va_G) (cI cS : ClassId) (y : Nat) (nw : Nat) (ad : Nat) (pa : Nat) (eA : Nat) (sn : Int32) (hs : Int64) (f : Nat → Int32) (g : Nat → Int32) (pf : Nat → Int32) (z : Nat → Int32) (tn : Int32) : Ct l yX4_minutesToMiss wsX4_minutesToMiss ({ frames := 6, cells := 0, slots := 0, locals := 250 }) D (tyL cI cS) [.ref y, .int tn] [(y, .inr (4, [.ref nw, .ref ad, .ref pa, .int sn, .ref eA, .long hs])), (nw, .inl (cI, 39, .inl f)), (ad, .inl (cI, 39, .inl g)), (pa, .inl (cI, 195, .inl pf)), (eA, .inl (cI, 3, .inl z))] (some (.int ((s_X4_minutesToMiss f g z tn).1))) [(y, .inr (4, [.ref nw, .ref ad, .ref pa, .int sn, .ref eA, .long hs])), (nw, .inl (cI, 39, .inl f)), (ad, .inl (cI, 39, .inl ((s_X4_minutesToMiss f g z tn).2.1))), (pa, .inl (cI, 195, .inl pf)), (eA, .inl (cI, 3, .inl ((s_X4_minutesToMiss f g z tn).2.2)))] := by
  refine Ct.of (cc := cX4_minutesToMiss) (maxL := 6) (ret := (some .int)) (by decide) rfl (Nat.le_of_ble_eq_true rfl) ?_
  intro p ev s m args below meth c A ls S hr hlk G hl
  have hx := S.1
  have hb := S.2.1
  have hown : s.vm.findClass RX4 = some m.cls := S.2.2.2.1
  have hts := S.2.2.2.2
  have hl : lv_has ls 6 [(0, .ref y), (1, .int tn)] := hl
  have hiX4 : ∀ w ∈ wsX40, w ∈ wsX4_minutesToMiss := by decide +kernel
  have hf7 := hts (.fieldLink RX4 7 "StrikingWorkModel" "now" "[I") (by decide +kernel)
  have hf13 := hts (.fieldLink RX4 13 "StrikingWorkModel" "aside" "[I") (by decide +kernel)
  by_cases c_1 : tn = 0
  · skip
    have hl : lv_has ls 6 [(0, .ref y), (1, .int 0)] := by rw [c_1] at hl; exact hl
    refine lv_iload_n hx hb dX4_minutesToMiss_0 rfl (lv_at hl 1 rfl) ?_
    refine k_callS (n := 1) (As := [.int 0]) (rest := []) (st1 := [.int 1]) (ws1 := [(y, .inr (4, [.ref nw, .ref ad, .ref pa, .int sn, .ref eA, .long hs])), (nw, .inl (cI, 39, .inl f)), (ad, .inl (cI, 39, .inl g)), (pa, .inl (cI, 195, .inl pf)), (eA, .inl (cI, 3, .inl z))]) S G (c_X4_isTrain l D cI cS 0) gX4_minutesToMiss_X4_isTrain rfl (by decide +kernel) ⟨⟨rfl, rfl⟩, Nat.le_of_ble_eq_true rfl, Nat.le_of_ble_eq_true rfl⟩ [] (by decide) rfl [] rfl rfl rfl hl.1 rfl (Nat.le_of_ble_eq_true rfl) ⟨Nat.zero_le _, Nat.zero_le _⟩ dX4_minutesToMiss_1 (congrArg (fun z => Value.int z :: []) (by decide : (s_X4_isTrain 0) = 1)) rfl (fun H locs G => ?_)
    refine lv_if_ne (tgt := 14) hx hb dX4_minutesToMiss_4 (by decide) (fun c_2 => ?_) (fun c_2 => absurd c_2 (by decide))
    refine lv_aload_n hx hb dX4_minutesToMiss_14 rfl (lv_at hl 0 rfl) ?_
    refine k_get (v := .ref nw) S G 0 rfl rfl hiX4 0 (by decide) hf7 rfl dX4_minutesToMiss_15 ?_
    refine lv_iconst (v := 0) hx hb dX4_minutesToMiss_18 (by decide) ?_
    refine lv_aload_n hx hb dX4_minutesToMiss_19 rfl (lv_at hl 0 rfl) ?_
    refine k_get (v := .ref ad) S G 0 rfl rfl hiX4 1 (by decide) hf13 rfl dX4_minutesToMiss_20 ?_
    refine lv_iconst (v := 0) hx hb dX4_minutesToMiss_23 (by decide) ?_
    refine k_callS (n := 4) (As := [.ref nw, .int 0, .ref ad, .int 0]) (rest := []) (st1 := []) (ws1 := [(y, .inr (4, [.ref nw, .ref ad, .ref pa, .int sn, .ref eA, .long hs])), (nw, .inl (cI, 39, .inl f)), (ad, .inl (cI, 39, .inl (va_cpy f g 0 0 39))), (pa, .inl (cI, 195, .inl pf)), (eA, .inl (cI, 3, .inl z))]) S G (c_X4_copy l D cI cS nw ad 39 39 f g 0 0 (by unfold cpOk; decide)) gX4_minutesToMiss_X4_copy rfl (by decide +kernel) ⟨⟨rfl, rfl⟩, Nat.le_of_ble_eq_true rfl, Nat.le_of_ble_eq_true rfl⟩ [1, 2] (by decide) rfl [nw, ad] rfl rfl rfl hl.1 rfl (Nat.le_of_ble_eq_true rfl) ⟨Nat.zero_le _, Nat.zero_le _⟩ dX4_minutesToMiss_24 rfl rfl (fun H locs G => ?_)
    refine lv_iload_n hx hb dX4_minutesToMiss_27 rfl (lv_at hl 1 rfl) ?_
    refine lv_iconst (v := 4) hx hb dX4_minutesToMiss_28 (by decide) ?_
    refine k_callS (n := 2) (As := [.int 0, .int 4]) (rest := []) (st1 := [.int 8]) (ws1 := [(y, .inr (4, [.ref nw, .ref ad, .ref pa, .int sn, .ref eA, .long hs])), (nw, .inl (cI, 39, .inl f)), (ad, .inl (cI, 39, .inl (va_cpy f g 0 0 39))), (pa, .inl (cI, 195, .inl pf)), (eA, .inl (cI, 3, .inl z))]) S G (c_X4_at l D cI cS 0 4) gX4_minutesToMiss_X4_at rfl (by decide +kernel) ⟨⟨rfl, rfl⟩, Nat.le_of_ble_eq_true rfl, Nat.le_of_ble_eq_true rfl⟩ [] (by decide) rfl [] rfl rfl rfl hl.1 rfl (Nat.le_of_ble_eq_true rfl) ⟨Nat.zero_le _, Nat.zero_le _⟩ dX4_minutesToMiss_29 (congrArg (fun z => Value.int z :: []) (by decide : (s_X4_at 0 4) = 8)) rfl (fun H locs G => ?_)
    refine lv_istore_n (lv' := [(2, .int 8), (0, .ref y), (1, .int 0)]) hx hb dX4_minutesToMiss_32 rfl hl (by decide) rfl (fun ls hl => ?_)
    refine lv_iconst (v := (-1)) hx hb dX4_minutesToMiss_33 (by decide) ?_
    refine lv_istore_n (lv' := [(3, .int (-1)), (2, .int 8), (0, .ref y), (1, .int 0)]) hx hb dX4_minutesToMiss_34 rfl hl (by decide) rfl (fun ls hl => ?_)
    refine lv_iconst (v := 1) hx hb dX4_minutesToMiss_35 (by decide) ?_
    refine lv_istore (lv' := [(4, .int 1), (3, .int (-1)), (2, .int 8), (0, .ref y), (1, .int 0)]) hx hb dX4_minutesToMiss_36 hl (by decide) rfl (fun ls hl => ?_)
    have G := Gd.arr (ws1 := [(y, .inr (4, [.ref nw, .ref ad, .ref pa, .int sn, .ref eA, .long hs])), (nw, .inl (cI, 39, .inl f)), (ad, .inl (cI, 39, .inl f)), (pa, .inl (cI, 195, .inl pf)), (eA, .inl (cI, 3, .inl z))]) G 2 f rfl (fun i hi => cpy_same _ _ hi) rfl
    refine lp_X4_mm_0 l D cI cS y nw ad pa eA sn hs f pf z S 20001 1 f (by omega) (by omega) (fun H locs ls G hl => ?_) _ _ ls G (lv_sub hl [0, 1, 2, 3] rfl)
    generalize hu90 : (mmM 8 f 20001 1 f) = u90 at G hl ⊢
    refine lv_aload_n hx hb dX4_minutesToMiss_85 rfl (lv_at hl 1 rfl) ?_
    refine k_get (v := .ref ad) S G 0 rfl rfl hiX4 1 (by decide) hf13 rfl dX4_minutesToMiss_86 ?_
    refine lv_iconst (v := 0) hx hb dX4_minutesToMiss_89 (by decide) ?_
    refine lv_aload_n hx hb dX4_minutesToMiss_90 rfl (lv_at hl 1 rfl) ?_
    refine k_get (v := .ref nw) S G 0 rfl rfl hiX4 0 (by decide) hf7 rfl dX4_minutesToMiss_91 ?_
    refine lv_iconst (v := 0) hx hb dX4_minutesToMiss_94 (by decide) ?_
    refine k_callS (n := 4) (As := [.ref ad, .int 0, .ref nw, .int 0]) (rest := []) (st1 := []) (ws1 := [(y, .inr (4, [.ref nw, .ref ad, .ref pa, .int sn, .ref eA, .long hs])), (nw, .inl (cI, 39, .inl (va_cpy f u90.2 0 0 39))), (ad, .inl (cI, 39, .inl f)), (pa, .inl (cI, 195, .inl pf)), (eA, .inl (cI, 3, .inl z))]) S G (c_X4_copy l D cI cS ad nw 39 39 f u90.2 0 0 (by unfold cpOk; decide)) gX4_minutesToMiss_X4_copy rfl (by decide +kernel) ⟨⟨rfl, rfl⟩, Nat.le_of_ble_eq_true rfl, Nat.le_of_ble_eq_true rfl⟩ [2, 1] (by decide) rfl [ad, nw] rfl rfl rfl hl.1 rfl (Nat.le_of_ble_eq_true rfl) ⟨Nat.zero_le _, Nat.zero_le _⟩ dX4_minutesToMiss_95 rfl rfl (fun H locs G => ?_)
    refine lv_iload_n hx hb dX4_minutesToMiss_98 rfl (lv_at hl 0 rfl) ?_
    have G := Gd.arr (ws1 := [(y, .inr (4, [.ref nw, .ref ad, .ref pa, .int sn, .ref eA, .long hs])), (nw, .inl (cI, 39, .inl f)), (ad, .inl (cI, 39, .inl f)), (pa, .inl (cI, 195, .inl pf)), (eA, .inl (cI, 3, .inl z))]) G 1 f rfl (fun i hi => cpy_same _ _ hi) rfl
    have es : (s_X4_minutesToMiss f g z tn) = (u90.1, f, z) := by rw [s_X4_minutesToMiss, hu90, if_pos c_1]
    exact k_iret S G hr hlk dX4_minutesToMiss_99 (by first | (rw [es]; done) | (rw [es]; rfl) | (simp only [es]; done) | (simp only [es]; rfl)) (by first | (rw [es]; done) | (rw [es]; rfl) | (simp only [es]; done) | (simp only [es]; rfl))
  · skip
    by_cases c_3 : tn = 1
    · skip
      have hl : lv_has ls 6 [(0, .ref y), (1, .int 1)] := by rw [c_3] at hl; exact hl
      refine lv_iload_n hx hb dX4_minutesToMiss_0 rfl (lv_at hl 1 rfl) ?_
      refine k_callS (n := 1) (As := [.int 1]) (rest := []) (st1 := [.int 1]) (ws1 := [(y, .inr (4, [.ref nw, .ref ad, .ref pa, .int sn, .ref eA, .long hs])), (nw, .inl (cI, 39, .inl f)), (ad, .inl (cI, 39, .inl g)), (pa, .inl (cI, 195, .inl pf)), (eA, .inl (cI, 3, .inl z))]) S G (c_X4_isTrain l D cI cS 1) gX4_minutesToMiss_X4_isTrain rfl (by decide +kernel) ⟨⟨rfl, rfl⟩, Nat.le_of_ble_eq_true rfl, Nat.le_of_ble_eq_true rfl⟩ [] (by decide) rfl [] rfl rfl rfl hl.1 rfl (Nat.le_of_ble_eq_true rfl) ⟨Nat.zero_le _, Nat.zero_le _⟩ dX4_minutesToMiss_1 (congrArg (fun z => Value.int z :: []) (by decide : (s_X4_isTrain 1) = 1)) rfl (fun H locs G => ?_)
      refine lv_if_ne (tgt := 14) hx hb dX4_minutesToMiss_4 (by decide) (fun c_4 => ?_) (fun c_4 => absurd c_4 (by decide))
      refine lv_aload_n hx hb dX4_minutesToMiss_14 rfl (lv_at hl 0 rfl) ?_
      refine k_get (v := .ref nw) S G 0 rfl rfl hiX4 0 (by decide) hf7 rfl dX4_minutesToMiss_15 ?_
      refine lv_iconst (v := 0) hx hb dX4_minutesToMiss_18 (by decide) ?_
      refine lv_aload_n hx hb dX4_minutesToMiss_19 rfl (lv_at hl 0 rfl) ?_
      refine k_get (v := .ref ad) S G 0 rfl rfl hiX4 1 (by decide) hf13 rfl dX4_minutesToMiss_20 ?_
      refine lv_iconst (v := 0) hx hb dX4_minutesToMiss_23 (by decide) ?_
      refine k_callS (n := 4) (As := [.ref nw, .int 0, .ref ad, .int 0]) (rest := []) (st1 := []) (ws1 := [(y, .inr (4, [.ref nw, .ref ad, .ref pa, .int sn, .ref eA, .long hs])), (nw, .inl (cI, 39, .inl f)), (ad, .inl (cI, 39, .inl (va_cpy f g 0 0 39))), (pa, .inl (cI, 195, .inl pf)), (eA, .inl (cI, 3, .inl z))]) S G (c_X4_copy l D cI cS nw ad 39 39 f g 0 0 (by unfold cpOk; decide)) gX4_minutesToMiss_X4_copy rfl (by decide +kernel) ⟨⟨rfl, rfl⟩, Nat.le_of_ble_eq_true rfl, Nat.le_of_ble_eq_true rfl⟩ [1, 2] (by decide) rfl [nw, ad] rfl rfl rfl hl.1 rfl (Nat.le_of_ble_eq_true rfl) ⟨Nat.zero_le _, Nat.zero_le _⟩ dX4_minutesToMiss_24 rfl rfl (fun H locs G => ?_)
      refine lv_iload_n hx hb dX4_minutesToMiss_27 rfl (lv_at hl 1 rfl) ?_
      refine lv_iconst (v := 4) hx hb dX4_minutesToMiss_28 (by decide) ?_
      refine k_callS (n := 2) (As := [.int 1, .int 4]) (rest := []) (st1 := [.int 13]) (ws1 := [(y, .inr (4, [.ref nw, .ref ad, .ref pa, .int sn, .ref eA, .long hs])), (nw, .inl (cI, 39, .inl f)), (ad, .inl (cI, 39, .inl (va_cpy f g 0 0 39))), (pa, .inl (cI, 195, .inl pf)), (eA, .inl (cI, 3, .inl z))]) S G (c_X4_at l D cI cS 1 4) gX4_minutesToMiss_X4_at rfl (by decide +kernel) ⟨⟨rfl, rfl⟩, Nat.le_of_ble_eq_true rfl, Nat.le_of_ble_eq_true rfl⟩ [] (by decide) rfl [] rfl rfl rfl hl.1 rfl (Nat.le_of_ble_eq_true rfl) ⟨Nat.zero_le _, Nat.zero_le _⟩ dX4_minutesToMiss_29 (congrArg (fun z => Value.int z :: []) (by decide : (s_X4_at 1 4) = 13)) rfl (fun H locs G => ?_)
      refine lv_istore_n (lv' := [(2, .int 13), (0, .ref y), (1, .int 1)]) hx hb dX4_minutesToMiss_32 rfl hl (by decide) rfl (fun ls hl => ?_)
      refine lv_iconst (v := (-1)) hx hb dX4_minutesToMiss_33 (by decide) ?_
      refine lv_istore_n (lv' := [(3, .int (-1)), (2, .int 13), (0, .ref y), (1, .int 1)]) hx hb dX4_minutesToMiss_34 rfl hl (by decide) rfl (fun ls hl => ?_)
      refine lv_iconst (v := 1) hx hb dX4_minutesToMiss_35 (by decide) ?_
      refine lv_istore (lv' := [(4, .int 1), (3, .int (-1)), (2, .int 13), (0, .ref y), (1, .int 1)]) hx hb dX4_minutesToMiss_36 hl (by decide) rfl (fun ls hl => ?_)
      have G := Gd.arr (ws1 := [(y, .inr (4, [.ref nw, .ref ad, .ref pa, .int sn, .ref eA, .long hs])), (nw, .inl (cI, 39, .inl f)), (ad, .inl (cI, 39, .inl f)), (pa, .inl (cI, 195, .inl pf)), (eA, .inl (cI, 3, .inl z))]) G 2 f rfl (fun i hi => cpy_same _ _ hi) rfl
      refine lp_X4_mm_1 l D cI cS y nw ad pa eA sn hs f pf z S 20001 1 f (by omega) (by omega) (fun H locs ls G hl => ?_) _ _ ls G (lv_sub hl [0, 1, 2, 3] rfl)
      generalize hu91 : (mmM 13 f 20001 1 f) = u91 at G hl ⊢
      refine lv_aload_n hx hb dX4_minutesToMiss_85 rfl (lv_at hl 1 rfl) ?_
      refine k_get (v := .ref ad) S G 0 rfl rfl hiX4 1 (by decide) hf13 rfl dX4_minutesToMiss_86 ?_
      refine lv_iconst (v := 0) hx hb dX4_minutesToMiss_89 (by decide) ?_
      refine lv_aload_n hx hb dX4_minutesToMiss_90 rfl (lv_at hl 1 rfl) ?_
      refine k_get (v := .ref nw) S G 0 rfl rfl hiX4 0 (by decide) hf7 rfl dX4_minutesToMiss_91 ?_
      refine lv_iconst (v := 0) hx hb dX4_minutesToMiss_94 (by decide) ?_
      refine k_callS (n := 4) (As := [.ref ad, .int 0, .ref nw, .int 0]) (rest := []) (st1 := []) (ws1 := [(y, .inr (4, [.ref nw, .ref ad, .ref pa, .int sn, .ref eA, .long hs])), (nw, .inl (cI, 39, .inl (va_cpy f u91.2 0 0 39))), (ad, .inl (cI, 39, .inl f)), (pa, .inl (cI, 195, .inl pf)), (eA, .inl (cI, 3, .inl z))]) S G (c_X4_copy l D cI cS ad nw 39 39 f u91.2 0 0 (by unfold cpOk; decide)) gX4_minutesToMiss_X4_copy rfl (by decide +kernel) ⟨⟨rfl, rfl⟩, Nat.le_of_ble_eq_true rfl, Nat.le_of_ble_eq_true rfl⟩ [2, 1] (by decide) rfl [ad, nw] rfl rfl rfl hl.1 rfl (Nat.le_of_ble_eq_true rfl) ⟨Nat.zero_le _, Nat.zero_le _⟩ dX4_minutesToMiss_95 rfl rfl (fun H locs G => ?_)
      refine lv_iload_n hx hb dX4_minutesToMiss_98 rfl (lv_at hl 0 rfl) ?_
      have G := Gd.arr (ws1 := [(y, .inr (4, [.ref nw, .ref ad, .ref pa, .int sn, .ref eA, .long hs])), (nw, .inl (cI, 39, .inl f)), (ad, .inl (cI, 39, .inl f)), (pa, .inl (cI, 195, .inl pf)), (eA, .inl (cI, 3, .inl z))]) G 1 f rfl (fun i hi => cpy_same _ _ hi) rfl
      have es : (s_X4_minutesToMiss f g z tn) = (u91.1, f, z) := by rw [s_X4_minutesToMiss, hu91, if_neg c_1, if_pos c_3]
      exact k_iret S G hr hlk dX4_minutesToMiss_99 (by first | (rw [es]; done) | (rw [es]; rfl) | (simp only [es]; done) | (simp only [es]; rfl)) (by first | (rw [es]; done) | (rw [es]; rfl) | (simp only [es]; done) | (simp only [es]; rfl))
    · skip
      refine lv_iload_n hx hb dX4_minutesToMiss_0 rfl (lv_at hl 1 rfl) ?_
      refine k_callS (n := 1) (As := [.int tn]) (rest := []) (st1 := [.int 0]) (ws1 := [(y, .inr (4, [.ref nw, .ref ad, .ref pa, .int sn, .ref eA, .long hs])), (nw, .inl (cI, 39, .inl f)), (ad, .inl (cI, 39, .inl g)), (pa, .inl (cI, 195, .inl pf)), (eA, .inl (cI, 3, .inl z))]) S G (c_X4_isTrain l D cI cS tn) gX4_minutesToMiss_X4_isTrain rfl (by decide +kernel) ⟨⟨rfl, rfl⟩, Nat.le_of_ble_eq_true rfl, Nat.le_of_ble_eq_true rfl⟩ [] (by decide) rfl [] rfl rfl rfl hl.1 rfl (Nat.le_of_ble_eq_true rfl) ⟨Nat.zero_le _, Nat.zero_le _⟩ dX4_minutesToMiss_1 (congrArg (fun z => Value.int z :: []) (X4_isTrain_else c_1 c_3)) rfl (fun H locs G => ?_)
      refine lv_if_ne (tgt := 14) hx hb dX4_minutesToMiss_4 (by decide) (fun c_5 => absurd c_5 (by decide)) (fun c_5 => ?_)
      refine lv_aload_n hx hb dX4_minutesToMiss_7 rfl (lv_at hl 0 rfl) ?_
      refine lv_bipush (v := (-2)) hx hb dX4_minutesToMiss_8 (by decide) ?_
      refine k_callV (n := 1) (As := [.int (-2)]) (rest := []) (st1 := [.int (-2)]) (ws1 := [(y, .inr (4, [.ref nw, .ref ad, .ref pa, .int sn, .ref eA, .long hs])), (nw, .inl (cI, 39, .inl f)), (ad, .inl (cI, 39, .inl g)), (pa, .inl (cI, 195, .inl pf)), (eA, .inl (cI, 3, .inl (upd z 0 ((z 0) + 1))))]) S G (c_X4_error_2 l D cI cS y nw ad pa eA sn hs f g pf z) gX4_minutesToMiss_X4_error rfl (by decide +kernel) ⟨⟨rfl, rfl⟩, Nat.le_of_ble_eq_true rfl, Nat.le_of_ble_eq_true rfl⟩ [0, 1, 2, 3, 4] (by decide) rfl [y, nw, ad, pa, eA] rfl rfl 0 rfl rfl rfl hl.1 rfl (Nat.le_of_ble_eq_true rfl) ⟨Nat.zero_le _, Nat.zero_le _⟩ dX4_minutesToMiss_10 rfl rfl (fun H locs G => ?_)
      have es : (s_X4_minutesToMiss f g z tn) = ((-2), g, (upd z 0 ((z 0) + 1))) := by rw [s_X4_minutesToMiss, if_neg c_1, if_neg c_3]
      exact k_iret S G hr hlk dX4_minutesToMiss_13 (by first | (rw [es]; done) | (rw [es]; rfl) | (simp only [es]; done) | (simp only [es]; rfl)) (by first | (rw [es]; done) | (rw [es]; rfl) | (simp only [es]; done) | (simp only [es]; rfl))
