set_option maxHeartbeats 4000000 in
set_option maxRecDepth 100000 in
theorem c_X4_error_2 (l : Launch) (D : va_G) (cI cS : ClassId) (y : Nat) (nw : Nat) (ad : Nat) (pa : Nat) (eA : Nat) (sn : Int32) (hs : Int64) (f : Nat → Int32) (g : Nat → Int32) (pf : Nat → Int32) (z : Nat → Int32) : Ct l yX4_error wsX4_error ({ frames := 0, cells := 0, slots := 0, locals := 0 }) D (tyL cI cS) [.ref y, .int (-2)] [(y, .inr (4, [.ref nw, .ref ad, .ref pa, .int sn, .ref eA, .long hs])), (nw, .inl (cI, 39, .inl f)), (ad, .inl (cI, 39, .inl g)), (pa, .inl (cI, 195, .inl pf)), (eA, .inl (cI, 3, .inl z))] (some (.int (-2))) [(y, .inr (4, [.ref nw, .ref ad, .ref pa, .int sn, .ref eA, .long hs])), (nw, .inl (cI, 39, .inl f)), (ad, .inl (cI, 39, .inl g)), (pa, .inl (cI, 195, .inl pf)), (eA, .inl (cI, 3, .inl (upd z 0 ((z 0) + 1))))] := by
  refine Ct.of (cc := cX4_error) (maxL := 2) (ret := (some .int)) (by decide) rfl (Nat.le_of_ble_eq_true rfl) ?_
  intro p ev s m args below meth c A ls S hr hlk G hl
  have hx := S.1
  have hb := S.2.1
  have hown : s.vm.findClass RX4 = some m.cls := S.2.2.2.1
  have hts := S.2.2.2.2
  have hl : lv_has ls 2 [(0, .ref y), (1, .int (-2))] := hl
  have hiX4 : ∀ w ∈ wsX40, w ∈ wsX4_error := by decide +kernel
  have hf19 := hts (.fieldLink RX4 19 "StrikingWorkModel" "errors" "[I") (by decide +kernel)
  refine lv_aload_n hx hb dX4_error_0 rfl (lv_at hl 0 rfl) ?_
  refine k_get (v := .ref eA) S G 0 rfl rfl hiX4 4 (by decide) hf19 rfl dX4_error_1 ?_
  refine lv_bipush (v := (-2)) hx hb dX4_error_4 (by decide) ?_
  refine lv_iload_n hx hb dX4_error_6 rfl (lv_at hl 1 rfl) ?_
  refine lv_isub hx hb dX4_error_7 ?_
  refine lv_lit (v := 0) (by decide) ?_
  refine lv_dup2_11 hx hb dX4_error_8 rfl rfl ?_
  refine k_iald (x := (z 0)) S G 4 0 rfl rfl (by unfold vp_in; decide) rfl dX4_error_9 ?_
  refine lv_iconst (v := 1) hx hb dX4_error_10 (by decide) ?_
  refine lv_iadd hx hb dX4_error_11 ?_
  refine k_iast (ws1 := [(y, .inr (4, [.ref nw, .ref ad, .ref pa, .int sn, .ref eA, .long hs])), (nw, .inl (cI, 39, .inl f)), (ad, .inl (cI, 39, .inl g)), (pa, .inl (cI, 195, .inl pf)), (eA, .inl (cI, 3, .inl (upd z 0 ((z 0) + 1))))]) S G 4 0 rfl rfl (by unfold vp_in; decide) dX4_error_12 rfl (fun H locs G => ?_)
  refine lv_iload_n hx hb dX4_error_13 rfl (lv_at hl 1 rfl) ?_
  exact k_iret S G hr hlk dX4_error_14 rfl rfl
set_option maxHeartbeats 4000000 in
set_option maxRecDepth 100000 in
theorem c_X4_error_3 (l : Launch) (D : va_G) (cI cS : ClassId) (y : Nat) (nw : Nat) (ad : Nat) (pa : Nat) (eA : Nat) (sn : Int32) (hs : Int64) (f : Nat → Int32) (g : Nat → Int32) (pf : Nat → Int32) (z : Nat → Int32) : Ct l yX4_error wsX4_error ({ frames := 0, cells := 0, slots := 0, locals := 0 }) D (tyL cI cS) [.ref y, .int (-3)] [(y, .inr (4, [.ref nw, .ref ad, .ref pa, .int sn, .ref eA, .long hs])), (nw, .inl (cI, 39, .inl f)), (ad, .inl (cI, 39, .inl g)), (pa, .inl (cI, 195, .inl pf)), (eA, .inl (cI, 3, .inl z))] (some (.int (-3))) [(y, .inr (4, [.ref nw, .ref ad, .ref pa, .int sn, .ref eA, .long hs])), (nw, .inl (cI, 39, .inl f)), (ad, .inl (cI, 39, .inl g)), (pa, .inl (cI, 195, .inl pf)), (eA, .inl (cI, 3, .inl (upd z 1 ((z 1) + 1))))] := by
  refine Ct.of (cc := cX4_error) (maxL := 2) (ret := (some .int)) (by decide) rfl (Nat.le_of_ble_eq_true rfl) ?_
  intro p ev s m args below meth c A ls S hr hlk G hl
  have hx := S.1
  have hb := S.2.1
  have hown : s.vm.findClass RX4 = some m.cls := S.2.2.2.1
  have hts := S.2.2.2.2
  have hl : lv_has ls 2 [(0, .ref y), (1, .int (-3))] := hl
  have hiX4 : ∀ w ∈ wsX40, w ∈ wsX4_error := by decide +kernel
  have hf19 := hts (.fieldLink RX4 19 "StrikingWorkModel" "errors" "[I") (by decide +kernel)
  refine lv_aload_n hx hb dX4_error_0 rfl (lv_at hl 0 rfl) ?_
  refine k_get (v := .ref eA) S G 0 rfl rfl hiX4 4 (by decide) hf19 rfl dX4_error_1 ?_
  refine lv_bipush (v := (-2)) hx hb dX4_error_4 (by decide) ?_
  refine lv_iload_n hx hb dX4_error_6 rfl (lv_at hl 1 rfl) ?_
  refine lv_isub hx hb dX4_error_7 ?_
  refine lv_lit (v := 1) (by decide) ?_
  refine lv_dup2_11 hx hb dX4_error_8 rfl rfl ?_
  refine k_iald (x := (z 1)) S G 4 0 rfl rfl (by unfold vp_in; decide) rfl dX4_error_9 ?_
  refine lv_iconst (v := 1) hx hb dX4_error_10 (by decide) ?_
  refine lv_iadd hx hb dX4_error_11 ?_
  refine k_iast (ws1 := [(y, .inr (4, [.ref nw, .ref ad, .ref pa, .int sn, .ref eA, .long hs])), (nw, .inl (cI, 39, .inl f)), (ad, .inl (cI, 39, .inl g)), (pa, .inl (cI, 195, .inl pf)), (eA, .inl (cI, 3, .inl (upd z 1 ((z 1) + 1))))]) S G 4 0 rfl rfl (by unfold vp_in; decide) dX4_error_12 rfl (fun H locs G => ?_)
  refine lv_iload_n hx hb dX4_error_13 rfl (lv_at hl 1 rfl) ?_
  exact k_iret S G hr hlk dX4_error_14 rfl rfl
set_option maxHeartbeats 4000000 in
set_option maxRecDepth 100000 in
theorem c_X4_error_4 (l : Launch) (D : va_G) (cI cS : ClassId) (y : Nat) (nw : Nat) (ad : Nat) (pa : Nat) (eA : Nat) (sn : Int32) (hs : Int64) (f : Nat → Int32) (g : Nat → Int32) (pf : Nat → Int32) (z : Nat → Int32) : Ct l yX4_error wsX4_error ({ frames := 0, cells := 0, slots := 0, locals := 0 }) D (tyL cI cS) [.ref y, .int (-4)] [(y, .inr (4, [.ref nw, .ref ad, .ref pa, .int sn, .ref eA, .long hs])), (nw, .inl (cI, 39, .inl f)), (ad, .inl (cI, 39, .inl g)), (pa, .inl (cI, 195, .inl pf)), (eA, .inl (cI, 3, .inl z))] (some (.int (-4))) [(y, .inr (4, [.ref nw, .ref ad, .ref pa, .int sn, .ref eA, .long hs])), (nw, .inl (cI, 39, .inl f)), (ad, .inl (cI, 39, .inl g)), (pa, .inl (cI, 195, .inl pf)), (eA, .inl (cI, 3, .inl (upd z 2 ((z 2) + 1))))] := by
  refine Ct.of (cc := cX4_error) (maxL := 2) (ret := (some .int)) (by decide) rfl (Nat.le_of_ble_eq_true rfl) ?_
  intro p ev s m args below meth c A ls S hr hlk G hl
  have hx := S.1
  have hb := S.2.1
  have hown : s.vm.findClass RX4 = some m.cls := S.2.2.2.1
  have hts := S.2.2.2.2
  have hl : lv_has ls 2 [(0, .ref y), (1, .int (-4))] := hl
  have hiX4 : ∀ w ∈ wsX40, w ∈ wsX4_error := by decide +kernel
  have hf19 := hts (.fieldLink RX4 19 "StrikingWorkModel" "errors" "[I") (by decide +kernel)
  refine lv_aload_n hx hb dX4_error_0 rfl (lv_at hl 0 rfl) ?_
  refine k_get (v := .ref eA) S G 0 rfl rfl hiX4 4 (by decide) hf19 rfl dX4_error_1 ?_
  refine lv_bipush (v := (-2)) hx hb dX4_error_4 (by decide) ?_
  refine lv_iload_n hx hb dX4_error_6 rfl (lv_at hl 1 rfl) ?_
  refine lv_isub hx hb dX4_error_7 ?_
  refine lv_lit (v := 2) (by decide) ?_
  refine lv_dup2_11 hx hb dX4_error_8 rfl rfl ?_
  refine k_iald (x := (z 2)) S G 4 0 rfl rfl (by unfold vp_in; decide) rfl dX4_error_9 ?_
  refine lv_iconst (v := 1) hx hb dX4_error_10 (by decide) ?_
  refine lv_iadd hx hb dX4_error_11 ?_
  refine k_iast (ws1 := [(y, .inr (4, [.ref nw, .ref ad, .ref pa, .int sn, .ref eA, .long hs])), (nw, .inl (cI, 39, .inl f)), (ad, .inl (cI, 39, .inl g)), (pa, .inl (cI, 195, .inl pf)), (eA, .inl (cI, 3, .inl (upd z 2 ((z 2) + 1))))]) S G 4 0 rfl rfl (by unfold vp_in; decide) dX4_error_12 rfl (fun H locs G => ?_)
  refine lv_iload_n hx hb dX4_error_13 rfl (lv_at hl 1 rfl) ?_
  exact k_iret S G hr hlk dX4_error_14 rfl rfl
theorem shf_succ (P : Nat → Int32) (t : Nat) : upd (va_cpy P P 39 0 t) t (va_cpy P P 39 0 t (t + 39)) = va_cpy P P 39 0 (t + 1) := by
  rw [pk_cpy_out (by omega)]
  have h := cpy_succ P P 39 0 t
  rw [Nat.zero_add, Nat.add_comm 39 t] at h
  exact h
set_option maxHeartbeats 4000000 in
set_option maxRecDepth 100000 in
theorem lp_X4_save (l : Launch) (D : va_G) (cI cS : ClassId) (y : Nat) (nw : Nat) (ad : Nat) (pa : Nat) (eA : Nat) (hs : Int64) (f : Nat → Int32) (g : Nat → Int32) (pf : Nat → Int32) (z : Nat → Int32) {p : Program} {ev : Env} {s : State} {m : MethodId} {args : Array Value} {below : List Frame} {meth : Method} {c : Code} {A : Nat → Prop} {Q : State → Prop} (S : CallFix p m c cX4_save 2 s args wsX4_save RX4)  :
    ∀ (n t : Nat), t + n = 156 → (∀ (H : Heap) (locs : List Loc) (ls : Array Slot), Gd D (tyL cI cS) A s.heap s [(y, .inr (4, [.ref nw, .ref ad, .ref pa, .int 5, .ref eA, .long hs])), (nw, .inl (cI, 39, .inl f)), (ad, .inl (cI, 39, .inl g)), (pa, .inl (cI, 195, .inl (va_cpy pf pf 39 0 156))), (eA, .inl (cI, 3, .inl z))] H locs → lv_has ls 2 [(0, .ref y)] → W p l ev ({ frames := 1, cells := 0, slots := 0, locals := 50 }) s m args below meth c H locs 0 0 Q (F0 m 38 ls [])) → ∀ (H : Heap) (locs : List Loc) (ls : Array Slot), Gd D (tyL cI cS) A s.heap s [(y, .inr (4, [.ref nw, .ref ad, .ref pa, .int 5, .ref eA, .long hs])), (nw, .inl (cI, 39, .inl f)), (ad, .inl (cI, 39, .inl g)), (pa, .inl (cI, 195, .inl (va_cpy pf pf 39 0 t))), (eA, .inl (cI, 3, .inl z))] H locs → lv_has ls 2 [(1, .int (nI t)), (0, .ref y)] → W p l ev ({ frames := 1, cells := 0, slots := 0, locals := 50 }) s m args below meth c H locs 0 0 Q (F0 m 10 ls []) := by
  have hx := S.1
  have hb := S.2.1
  have hown : s.vm.findClass RX4 = some m.cls := S.2.2.2.1
  have hts := S.2.2.2.2
  have hiX4 : ∀ w ∈ wsX40, w ∈ wsX4_save := by decide +kernel
  have hf16 := hts (.fieldLink RX4 16 "StrikingWorkModel" "past" "[I") (by decide +kernel)
  intro n
  induction n with
  | zero =>
    intro t hin hk H locs ls G hl
    refine lv_iload_n hx hb dX4_save_10 rfl (lv_at hl 0 rfl) ?_
    refine lv_sipush (v := 156) hx hb dX4_save_11 (by decide) ?_
    refine lv_icmp_ge (tgt := 38) hx hb dX4_save_14 (by decide) (fun c_1 => ?_) (fun c_1 => absurd (show (156 : Int32) ≤ nI t from nI_le (a := 156) (by omega) (by omega)) c_1)
    obtain rfl : t = 156 := by omega
    exact hk _ _ ls G (lv_sub hl [1] rfl)
  | succ n ih =>
    intro t hin hk H locs ls G hl
    refine lv_iload_n hx hb dX4_save_10 rfl (lv_at hl 0 rfl) ?_
    refine lv_sipush (v := 156) hx hb dX4_save_11 (by decide) ?_
    refine lv_icmp_ge (tgt := 38) hx hb dX4_save_14 (by decide) (fun c_1 => absurd c_1 (show ¬ (156 : Int32) ≤ nI t from nI_ge (b := 156) (by omega) (by decide))) (fun c_1 => ?_)
    refine lv_aload_n hx hb dX4_save_17 rfl (lv_at hl 1 rfl) ?_
    refine k_get (v := .ref pa) S G 0 rfl rfl hiX4 2 (by decide) hf16 rfl dX4_save_18 ?_
    refine lv_iload_n hx hb dX4_save_21 rfl (lv_at hl 0 rfl) ?_
    refine lv_aload_n hx hb dX4_save_22 rfl (lv_at hl 1 rfl) ?_
    refine k_get (v := .ref pa) S G 0 rfl rfl hiX4 2 (by decide) hf16 rfl dX4_save_23 ?_
    refine lv_iload_n hx hb dX4_save_26 rfl (lv_at hl 0 rfl) ?_
    refine lv_bipush (v := 39) hx hb dX4_save_27 (by decide) ?_
    refine lv_iadd hx hb dX4_save_29 ?_
    refine lv_lit (v := (nI (t + 39))) (nI_add t 39) ?_
    refine k_iald (x := ((va_cpy pf pf 39 0 t) (t + 39))) S G 3 0 rfl rfl (vp_in_nI (by omega) (by decide)) (congrArg (va_cpy pf pf 39 0 t) (nI_clamp (show t + 39 < 2 ^ 31 by omega))) dX4_save_30 ?_
    refine k_iast (ws1 := [(y, .inr (4, [.ref nw, .ref ad, .ref pa, .int 5, .ref eA, .long hs])), (nw, .inl (cI, 39, .inl f)), (ad, .inl (cI, 39, .inl g)), (pa, .inl (cI, 195, .inl (upd (va_cpy pf pf 39 0 t) t ((va_cpy pf pf 39 0 t) (t + 39))))), (eA, .inl (cI, 3, .inl z))]) S G 3 0 rfl rfl (vp_in_nI (by omega) (by decide)) dX4_save_31 (by rw [(nI_clamp (show t < 2 ^ 31 by omega))]; rfl) (fun H locs G => ?_)
    refine lv_iinc (v := (nI (t + 1))) (lv' := [(1, .int (nI (t + 1))), (0, .ref y)]) hx hb dX4_save_32 hl (k := 0) rfl (nI_1 t) (by decide) rfl (fun ls hl => ?_)
    refine lv_goto (tgt := 10) hx hb dX4_save_35 (by decide) ?_
    exact ih (t + 1) (by omega) hk _ _ ls (Gd.eq G (by rw [shf_succ])) (lv_sub hl [0, 1] rfl)
set_option maxHeartbeats 4000000 in
set_option maxRecDepth 100000 in
theorem c_X4_save_5 (l : Launch) (D : va_G) (cI cS : ClassId) (y : Nat) (nw : Nat) (ad : Nat) (pa : Nat) (eA : Nat) (hs : Int64) (f : Nat → Int32) (g : Nat → Int32) (pf : Nat → Int32) (z : Nat → Int32) : Ct l yX4_save wsX4_save ({ frames := 1, cells := 0, slots := 0, locals := 50 }) D (tyL cI cS) [.ref y] [(y, .inr (4, [.ref nw, .ref ad, .ref pa, .int 5, .ref eA, .long hs])), (nw, .inl (cI, 39, .inl f)), (ad, .inl (cI, 39, .inl g)), (pa, .inl (cI, 195, .inl pf)), (eA, .inl (cI, 3, .inl z))] none [(y, .inr (4, [.ref nw, .ref ad, .ref pa, .int 5, .ref eA, .long hs])), (nw, .inl (cI, 39, .inl f)), (ad, .inl (cI, 39, .inl g)), (pa, .inl (cI, 195, .inl (va_cpy f (va_cpy pf pf 39 0 156) 0 156 39))), (eA, .inl (cI, 3, .inl z))] := by
  refine Ct.of (cc := cX4_save) (maxL := 2) (ret := none) (by decide) rfl (Nat.le_of_ble_eq_true rfl) ?_
  intro p ev s m args below meth c A ls S hr hlk G hl
  have hx := S.1
  have hb := S.2.1
  have hown : s.vm.findClass RX4 = some m.cls := S.2.2.2.1
  have hts := S.2.2.2.2
  have hl : lv_has ls 2 [(0, .ref y)] := hl
  have hiX4 : ∀ w ∈ wsX40, w ∈ wsX4_save := by decide +kernel
  have hf7 := hts (.fieldLink RX4 7 "StrikingWorkModel" "now" "[I") (by decide +kernel)
  have hf16 := hts (.fieldLink RX4 16 "StrikingWorkModel" "past" "[I") (by decide +kernel)
  have hf26 := hts (.fieldLink RX4 26 "StrikingWorkModel" "states" "I") (by decide +kernel)
  refine lv_aload_n hx hb dX4_save_0 rfl (lv_at hl 0 rfl) ?_
  refine k_get (v := .int 5) S G 0 rfl rfl hiX4 3 (by decide) hf26 rfl dX4_save_1 ?_
  refine lv_iconst (v := 5) hx hb dX4_save_4 (by decide) ?_
  refine lv_icmp_ne (tgt := 48) hx hb dX4_save_5 (by decide) (fun c_1 => absurd c_1 (by decide)) (fun c_1 => ?_)
  refine lv_iconst (v := 0) hx hb dX4_save_8 (by decide) ?_
  refine lv_istore_n (lv' := [(1, .int 0), (0, .ref y)]) hx hb dX4_save_9 rfl hl (by decide) rfl (fun ls hl => ?_)
  refine lp_X4_save l D cI cS y nw ad pa eA hs f g pf z S 156 0 (by omega) (fun H locs ls G hl => ?_) _ _ ls (Gd.eq G (by rw [cpy_zero])) (lv_sub hl [0, 1] rfl)
  refine lv_aload_n hx hb dX4_save_38 rfl (lv_at hl 0 rfl) ?_
  refine lv_dup hx hb dX4_save_39 rfl ?_
  refine k_get (v := .int 5) S G 0 rfl rfl hiX4 3 (by decide) hf26 rfl dX4_save_40 ?_
  refine lv_iconst (v := 1) hx hb dX4_save_43 (by decide) ?_
  refine lv_isub hx hb dX4_save_44 ?_
  refine lv_lit (v := 4) (by decide) ?_
  refine k_put (ws1 := [(y, .inr (4, [.ref nw, .ref ad, .ref pa, .int 4, .ref eA, .long hs])), (nw, .inl (cI, 39, .inl f)), (ad, .inl (cI, 39, .inl g)), (pa, .inl (cI, 195, .inl (va_cpy pf pf 39 0 156))), (eA, .inl (cI, 3, .inl z))]) S G 0 rfl rfl hiX4 tyX4 tyX4_ok nmX4 3 (by decide) hf26 rfl rfl rfl (Nat.le_of_ble_eq_true rfl) dX4_save_45 rfl (fun H locs G => ?_)
  refine lv_aload_n hx hb dX4_save_48 rfl (lv_at hl 0 rfl) ?_
  refine k_get (v := .ref nw) S G 0 rfl rfl hiX4 0 (by decide) hf7 rfl dX4_save_49 ?_
  refine lv_iconst (v := 0) hx hb dX4_save_52 (by decide) ?_
  refine lv_aload_n hx hb dX4_save_53 rfl (lv_at hl 0 rfl) ?_
  refine k_get (v := .ref pa) S G 0 rfl rfl hiX4 2 (by decide) hf16 rfl dX4_save_54 ?_
  refine lv_bipush (v := 39) hx hb dX4_save_57 (by decide) ?_
  refine lv_aload_n hx hb dX4_save_59 rfl (lv_at hl 0 rfl) ?_
  refine k_get (v := .int 4) S G 0 rfl rfl hiX4 3 (by decide) hf26 rfl dX4_save_60 ?_
  refine lv_imul hx hb dX4_save_63 ?_
  refine lv_lit (v := 156) (by decide) ?_
  refine k_callS (n := 4) (As := [.ref nw, .int 0, .ref pa, .int 156]) (rest := []) (st1 := []) (ws1 := [(y, .inr (4, [.ref nw, .ref ad, .ref pa, .int 4, .ref eA, .long hs])), (nw, .inl (cI, 39, .inl f)), (ad, .inl (cI, 39, .inl g)), (pa, .inl (cI, 195, .inl (va_cpy f (va_cpy pf pf 39 0 156) 0 156 39))), (eA, .inl (cI, 3, .inl z))]) S G (c_X4_copy l D cI cS nw pa 39 195 f (va_cpy pf pf 39 0 156) 0 156 (by unfold cpOk; decide)) gX4_save_X4_copy rfl (by decide +kernel) ⟨⟨rfl, rfl⟩, Nat.le_of_ble_eq_true rfl, Nat.le_of_ble_eq_true rfl⟩ [1, 3] (by decide) rfl [nw, pa] rfl rfl rfl hl.1 rfl (Nat.le_of_ble_eq_true rfl) ⟨Nat.zero_le _, Nat.zero_le _⟩ dX4_save_64 rfl rfl (fun H locs G => ?_)
  refine lv_aload_n hx hb dX4_save_67 rfl (lv_at hl 0 rfl) ?_
  refine lv_dup hx hb dX4_save_68 rfl ?_
  refine k_get (v := .int 4) S G 0 rfl rfl hiX4 3 (by decide) hf26 rfl dX4_save_69 ?_
  refine lv_iconst (v := 1) hx hb dX4_save_72 (by decide) ?_
  refine lv_iadd hx hb dX4_save_73 ?_
  refine lv_lit (v := 5) (by decide) ?_
  refine k_put (ws1 := [(y, .inr (4, [.ref nw, .ref ad, .ref pa, .int 5, .ref eA, .long hs])), (nw, .inl (cI, 39, .inl f)), (ad, .inl (cI, 39, .inl g)), (pa, .inl (cI, 195, .inl (va_cpy f (va_cpy pf pf 39 0 156) 0 156 39))), (eA, .inl (cI, 3, .inl z))]) S G 0 rfl rfl hiX4 tyX4 tyX4_ok nmX4 3 (by decide) hf26 rfl rfl rfl (Nat.le_of_ble_eq_true rfl) dX4_save_74 rfl (fun H locs G => ?_)
  exact k_vret S G hr hlk dX4_save_77 rfl
set_option maxHeartbeats 4000000 in
set_option maxRecDepth 100000 in
theorem c_X4_save_0 (l : Launch) (D : va_G) (cI cS : ClassId) (y : Nat) (nw : Nat) (ad : Nat) (pa : Nat) (eA : Nat) (hs : Int64) (f : Nat → Int32) (g : Nat → Int32) (pf : Nat → Int32) (z : Nat → Int32) : Ct l yX4_save wsX4_save ({ frames := 1, cells := 0, slots := 0, locals := 50 }) D (tyL cI cS) [.ref y] [(y, .inr (4, [.ref nw, .ref ad, .ref pa, .int 0, .ref eA, .long hs])), (nw, .inl (cI, 39, .inl f)), (ad, .inl (cI, 39, .inl g)), (pa, .inl (cI, 195, .inl pf)), (eA, .inl (cI, 3, .inl z))] none [(y, .inr (4, [.ref nw, .ref ad, .ref pa, .int 1, .ref eA, .long hs])), (nw, .inl (cI, 39, .inl f)), (ad, .inl (cI, 39, .inl g)), (pa, .inl (cI, 195, .inl (va_cpy f pf 0 0 39))), (eA, .inl (cI, 3, .inl z))] := by
  refine Ct.of (cc := cX4_save) (maxL := 2) (ret := none) (by decide) rfl (Nat.le_of_ble_eq_true rfl) ?_
  intro p ev s m args below meth c A ls S hr hlk G hl
  have hx := S.1
  have hb := S.2.1
  have hown : s.vm.findClass RX4 = some m.cls := S.2.2.2.1
  have hts := S.2.2.2.2
  have hl : lv_has ls 2 [(0, .ref y)] := hl
  have hiX4 : ∀ w ∈ wsX40, w ∈ wsX4_save := by decide +kernel
  have hf7 := hts (.fieldLink RX4 7 "StrikingWorkModel" "now" "[I") (by decide +kernel)
  have hf16 := hts (.fieldLink RX4 16 "StrikingWorkModel" "past" "[I") (by decide +kernel)
  have hf26 := hts (.fieldLink RX4 26 "StrikingWorkModel" "states" "I") (by decide +kernel)
  refine lv_aload_n hx hb dX4_save_0 rfl (lv_at hl 0 rfl) ?_
  refine k_get (v := .int 0) S G 0 rfl rfl hiX4 3 (by decide) hf26 rfl dX4_save_1 ?_
  refine lv_iconst (v := 5) hx hb dX4_save_4 (by decide) ?_
  refine lv_icmp_ne (tgt := 48) hx hb dX4_save_5 (by decide) (fun c_1 => ?_) (fun c_1 => absurd c_1 (by decide))
  refine lv_aload_n hx hb dX4_save_48 rfl (lv_at hl 0 rfl) ?_
  refine k_get (v := .ref nw) S G 0 rfl rfl hiX4 0 (by decide) hf7 rfl dX4_save_49 ?_
  refine lv_iconst (v := 0) hx hb dX4_save_52 (by decide) ?_
  refine lv_aload_n hx hb dX4_save_53 rfl (lv_at hl 0 rfl) ?_
  refine k_get (v := .ref pa) S G 0 rfl rfl hiX4 2 (by decide) hf16 rfl dX4_save_54 ?_
  refine lv_bipush (v := 39) hx hb dX4_save_57 (by decide) ?_
  refine lv_aload_n hx hb dX4_save_59 rfl (lv_at hl 0 rfl) ?_
  refine k_get (v := .int 0) S G 0 rfl rfl hiX4 3 (by decide) hf26 rfl dX4_save_60 ?_
  refine lv_imul hx hb dX4_save_63 ?_
  refine lv_lit (v := 0) (by decide) ?_
  refine k_callS (n := 4) (As := [.ref nw, .int 0, .ref pa, .int 0]) (rest := []) (st1 := []) (ws1 := [(y, .inr (4, [.ref nw, .ref ad, .ref pa, .int 0, .ref eA, .long hs])), (nw, .inl (cI, 39, .inl f)), (ad, .inl (cI, 39, .inl g)), (pa, .inl (cI, 195, .inl (va_cpy f pf 0 0 39))), (eA, .inl (cI, 3, .inl z))]) S G (c_X4_copy l D cI cS nw pa 39 195 f pf 0 0 (by unfold cpOk; decide)) gX4_save_X4_copy rfl (by decide +kernel) ⟨⟨rfl, rfl⟩, Nat.le_of_ble_eq_true rfl, Nat.le_of_ble_eq_true rfl⟩ [1, 3] (by decide) rfl [nw, pa] rfl rfl rfl hl.1 rfl (Nat.le_of_ble_eq_true rfl) ⟨Nat.zero_le _, Nat.zero_le _⟩ dX4_save_64 rfl rfl (fun H locs G => ?_)
  refine lv_aload_n hx hb dX4_save_67 rfl (lv_at hl 0 rfl) ?_
  refine lv_dup hx hb dX4_save_68 rfl ?_
  refine k_get (v := .int 0) S G 0 rfl rfl hiX4 3 (by decide) hf26 rfl dX4_save_69 ?_
  refine lv_iconst (v := 1) hx hb dX4_save_72 (by decide) ?_
  refine lv_iadd hx hb dX4_save_73 ?_
  refine lv_lit (v := 1) (by decide) ?_
  refine k_put (ws1 := [(y, .inr (4, [.ref nw, .ref ad, .ref pa, .int 1, .ref eA, .long hs])), (nw, .inl (cI, 39, .inl f)), (ad, .inl (cI, 39, .inl g)), (pa, .inl (cI, 195, .inl (va_cpy f pf 0 0 39))), (eA, .inl (cI, 3, .inl z))]) S G 0 rfl rfl hiX4 tyX4 tyX4_ok nmX4 3 (by decide) hf26 rfl rfl rfl (Nat.le_of_ble_eq_true rfl) dX4_save_74 rfl (fun H locs G => ?_)
  exact k_vret S G hr hlk dX4_save_77 rfl
set_option maxHeartbeats 4000000 in
set_option maxRecDepth 100000 in
theorem c_X4_save_1 (l : Launch) (D : va_G) (cI cS : ClassId) (y : Nat) (nw : Nat) (ad : Nat) (pa : Nat) (eA : Nat) (hs : Int64) (f : Nat → Int32) (g : Nat → Int32) (pf : Nat → Int32) (z : Nat → Int32) : Ct l yX4_save wsX4_save ({ frames := 1, cells := 0, slots := 0, locals := 50 }) D (tyL cI cS) [.ref y] [(y, .inr (4, [.ref nw, .ref ad, .ref pa, .int 1, .ref eA, .long hs])), (nw, .inl (cI, 39, .inl f)), (ad, .inl (cI, 39, .inl g)), (pa, .inl (cI, 195, .inl pf)), (eA, .inl (cI, 3, .inl z))] none [(y, .inr (4, [.ref nw, .ref ad, .ref pa, .int 2, .ref eA, .long hs])), (nw, .inl (cI, 39, .inl f)), (ad, .inl (cI, 39, .inl g)), (pa, .inl (cI, 195, .inl (va_cpy f pf 0 39 39))), (eA, .inl (cI, 3, .inl z))] := by
  refine Ct.of (cc := cX4_save) (maxL := 2) (ret := none) (by decide) rfl (Nat.le_of_ble_eq_true rfl) ?_
  intro p ev s m args below meth c A ls S hr hlk G hl
  have hx := S.1
  have hb := S.2.1
  have hown : s.vm.findClass RX4 = some m.cls := S.2.2.2.1
  have hts := S.2.2.2.2
  have hl : lv_has ls 2 [(0, .ref y)] := hl
  have hiX4 : ∀ w ∈ wsX40, w ∈ wsX4_save := by decide +kernel
  have hf7 := hts (.fieldLink RX4 7 "StrikingWorkModel" "now" "[I") (by decide +kernel)
  have hf16 := hts (.fieldLink RX4 16 "StrikingWorkModel" "past" "[I") (by decide +kernel)
  have hf26 := hts (.fieldLink RX4 26 "StrikingWorkModel" "states" "I") (by decide +kernel)
  refine lv_aload_n hx hb dX4_save_0 rfl (lv_at hl 0 rfl) ?_
  refine k_get (v := .int 1) S G 0 rfl rfl hiX4 3 (by decide) hf26 rfl dX4_save_1 ?_
  refine lv_iconst (v := 5) hx hb dX4_save_4 (by decide) ?_
  refine lv_icmp_ne (tgt := 48) hx hb dX4_save_5 (by decide) (fun c_1 => ?_) (fun c_1 => absurd c_1 (by decide))
  refine lv_aload_n hx hb dX4_save_48 rfl (lv_at hl 0 rfl) ?_
  refine k_get (v := .ref nw) S G 0 rfl rfl hiX4 0 (by decide) hf7 rfl dX4_save_49 ?_
  refine lv_iconst (v := 0) hx hb dX4_save_52 (by decide) ?_
  refine lv_aload_n hx hb dX4_save_53 rfl (lv_at hl 0 rfl) ?_
  refine k_get (v := .ref pa) S G 0 rfl rfl hiX4 2 (by decide) hf16 rfl dX4_save_54 ?_
  refine lv_bipush (v := 39) hx hb dX4_save_57 (by decide) ?_
  refine lv_aload_n hx hb dX4_save_59 rfl (lv_at hl 0 rfl) ?_
  refine k_get (v := .int 1) S G 0 rfl rfl hiX4 3 (by decide) hf26 rfl dX4_save_60 ?_
  refine lv_imul hx hb dX4_save_63 ?_
  refine lv_lit (v := 39) (by decide) ?_
  refine k_callS (n := 4) (As := [.ref nw, .int 0, .ref pa, .int 39]) (rest := []) (st1 := []) (ws1 := [(y, .inr (4, [.ref nw, .ref ad, .ref pa, .int 1, .ref eA, .long hs])), (nw, .inl (cI, 39, .inl f)), (ad, .inl (cI, 39, .inl g)), (pa, .inl (cI, 195, .inl (va_cpy f pf 0 39 39))), (eA, .inl (cI, 3, .inl z))]) S G (c_X4_copy l D cI cS nw pa 39 195 f pf 0 39 (by unfold cpOk; decide)) gX4_save_X4_copy rfl (by decide +kernel) ⟨⟨rfl, rfl⟩, Nat.le_of_ble_eq_true rfl, Nat.le_of_ble_eq_true rfl⟩ [1, 3] (by decide) rfl [nw, pa] rfl rfl rfl hl.1 rfl (Nat.le_of_ble_eq_true rfl) ⟨Nat.zero_le _, Nat.zero_le _⟩ dX4_save_64 rfl rfl (fun H locs G => ?_)
  refine lv_aload_n hx hb dX4_save_67 rfl (lv_at hl 0 rfl) ?_
  refine lv_dup hx hb dX4_save_68 rfl ?_
  refine k_get (v := .int 1) S G 0 rfl rfl hiX4 3 (by decide) hf26 rfl dX4_save_69 ?_
  refine lv_iconst (v := 1) hx hb dX4_save_72 (by decide) ?_
  refine lv_iadd hx hb dX4_save_73 ?_
  refine lv_lit (v := 2) (by decide) ?_
  refine k_put (ws1 := [(y, .inr (4, [.ref nw, .ref ad, .ref pa, .int 2, .ref eA, .long hs])), (nw, .inl (cI, 39, .inl f)), (ad, .inl (cI, 39, .inl g)), (pa, .inl (cI, 195, .inl (va_cpy f pf 0 39 39))), (eA, .inl (cI, 3, .inl z))]) S G 0 rfl rfl hiX4 tyX4 tyX4_ok nmX4 3 (by decide) hf26 rfl rfl rfl (Nat.le_of_ble_eq_true rfl) dX4_save_74 rfl (fun H locs G => ?_)
  exact k_vret S G hr hlk dX4_save_77 rfl
set_option maxHeartbeats 4000000 in
set_option maxRecDepth 100000 in
theorem c_X4_save_2 (l : Launch) (D : va_G) (cI cS : ClassId) (y : Nat) (nw : Nat) (ad : Nat) (pa : Nat) (eA : Nat) (hs : Int64) (f : Nat → Int32) (g : Nat → Int32) (pf : Nat → Int32) (z : Nat → Int32) : Ct l yX4_save wsX4_save ({ frames := 1, cells := 0, slots := 0, locals := 50 }) D (tyL cI cS) [.ref y] [(y, .inr (4, [.ref nw, .ref ad, .ref pa, .int 2, .ref eA, .long hs])), (nw, .inl (cI, 39, .inl f)), (ad, .inl (cI, 39, .inl g)), (pa, .inl (cI, 195, .inl pf)), (eA, .inl (cI, 3, .inl z))] none [(y, .inr (4, [.ref nw, .ref ad, .ref pa, .int 3, .ref eA, .long hs])), (nw, .inl (cI, 39, .inl f)), (ad, .inl (cI, 39, .inl g)), (pa, .inl (cI, 195, .inl (va_cpy f pf 0 78 39))), (eA, .inl (cI, 3, .inl z))] := by
  refine Ct.of (cc := cX4_save) (maxL := 2) (ret := none) (by decide) rfl (Nat.le_of_ble_eq_true rfl) ?_
  intro p ev s m args below meth c A ls S hr hlk G hl
  have hx := S.1
  have hb := S.2.1
  have hown : s.vm.findClass RX4 = some m.cls := S.2.2.2.1
  have hts := S.2.2.2.2
  have hl : lv_has ls 2 [(0, .ref y)] := hl
  have hiX4 : ∀ w ∈ wsX40, w ∈ wsX4_save := by decide +kernel
  have hf7 := hts (.fieldLink RX4 7 "StrikingWorkModel" "now" "[I") (by decide +kernel)
  have hf16 := hts (.fieldLink RX4 16 "StrikingWorkModel" "past" "[I") (by decide +kernel)
  have hf26 := hts (.fieldLink RX4 26 "StrikingWorkModel" "states" "I") (by decide +kernel)
  refine lv_aload_n hx hb dX4_save_0 rfl (lv_at hl 0 rfl) ?_
  refine k_get (v := .int 2) S G 0 rfl rfl hiX4 3 (by decide) hf26 rfl dX4_save_1 ?_
  refine lv_iconst (v := 5) hx hb dX4_save_4 (by decide) ?_
  refine lv_icmp_ne (tgt := 48) hx hb dX4_save_5 (by decide) (fun c_1 => ?_) (fun c_1 => absurd c_1 (by decide))
  refine lv_aload_n hx hb dX4_save_48 rfl (lv_at hl 0 rfl) ?_
  refine k_get (v := .ref nw) S G 0 rfl rfl hiX4 0 (by decide) hf7 rfl dX4_save_49 ?_
  refine lv_iconst (v := 0) hx hb dX4_save_52 (by decide) ?_
  refine lv_aload_n hx hb dX4_save_53 rfl (lv_at hl 0 rfl) ?_
  refine k_get (v := .ref pa) S G 0 rfl rfl hiX4 2 (by decide) hf16 rfl dX4_save_54 ?_
  refine lv_bipush (v := 39) hx hb dX4_save_57 (by decide) ?_
  refine lv_aload_n hx hb dX4_save_59 rfl (lv_at hl 0 rfl) ?_
  refine k_get (v := .int 2) S G 0 rfl rfl hiX4 3 (by decide) hf26 rfl dX4_save_60 ?_
  refine lv_imul hx hb dX4_save_63 ?_
  refine lv_lit (v := 78) (by decide) ?_
  refine k_callS (n := 4) (As := [.ref nw, .int 0, .ref pa, .int 78]) (rest := []) (st1 := []) (ws1 := [(y, .inr (4, [.ref nw, .ref ad, .ref pa, .int 2, .ref eA, .long hs])), (nw, .inl (cI, 39, .inl f)), (ad, .inl (cI, 39, .inl g)), (pa, .inl (cI, 195, .inl (va_cpy f pf 0 78 39))), (eA, .inl (cI, 3, .inl z))]) S G (c_X4_copy l D cI cS nw pa 39 195 f pf 0 78 (by unfold cpOk; decide)) gX4_save_X4_copy rfl (by decide +kernel) ⟨⟨rfl, rfl⟩, Nat.le_of_ble_eq_true rfl, Nat.le_of_ble_eq_true rfl⟩ [1, 3] (by decide) rfl [nw, pa] rfl rfl rfl hl.1 rfl (Nat.le_of_ble_eq_true rfl) ⟨Nat.zero_le _, Nat.zero_le _⟩ dX4_save_64 rfl rfl (fun H locs G => ?_)
  refine lv_aload_n hx hb dX4_save_67 rfl (lv_at hl 0 rfl) ?_
  refine lv_dup hx hb dX4_save_68 rfl ?_
  refine k_get (v := .int 2) S G 0 rfl rfl hiX4 3 (by decide) hf26 rfl dX4_save_69 ?_
  refine lv_iconst (v := 1) hx hb dX4_save_72 (by decide) ?_
  refine lv_iadd hx hb dX4_save_73 ?_
  refine lv_lit (v := 3) (by decide) ?_
  refine k_put (ws1 := [(y, .inr (4, [.ref nw, .ref ad, .ref pa, .int 3, .ref eA, .long hs])), (nw, .inl (cI, 39, .inl f)), (ad, .inl (cI, 39, .inl g)), (pa, .inl (cI, 195, .inl (va_cpy f pf 0 78 39))), (eA, .inl (cI, 3, .inl z))]) S G 0 rfl rfl hiX4 tyX4 tyX4_ok nmX4 3 (by decide) hf26 rfl rfl rfl (Nat.le_of_ble_eq_true rfl) dX4_save_74 rfl (fun H locs G => ?_)
  exact k_vret S G hr hlk dX4_save_77 rfl
set_option maxHeartbeats 4000000 in
set_option maxRecDepth 100000 in
theorem c_X4_save_3 (l : Launch) (D : va_G) (cI cS : ClassId) (y : Nat) (nw : Nat) (ad : Nat) (pa : Nat) (eA : Nat) (hs : Int64) (f : Nat → Int32) (g : Nat → Int32) (pf : Nat → Int32) (z : Nat → Int32) : Ct l yX4_save wsX4_save ({ frames := 1, cells := 0, slots := 0, locals := 50 }) D (tyL cI cS) [.ref y] [(y, .inr (4, [.ref nw, .ref ad, .ref pa, .int 3, .ref eA, .long hs])), (nw, .inl (cI, 39, .inl f)), (ad, .inl (cI, 39, .inl g)), (pa, .inl (cI, 195, .inl pf)), (eA, .inl (cI, 3, .inl z))] none [(y, .inr (4, [.ref nw, .ref ad, .ref pa, .int 4, .ref eA, .long hs])), (nw, .inl (cI, 39, .inl f)), (ad, .inl (cI, 39, .inl g)), (pa, .inl (cI, 195, .inl (va_cpy f pf 0 117 39))), (eA, .inl (cI, 3, .inl z))] := by
  refine Ct.of (cc := cX4_save) (maxL := 2) (ret := none) (by decide) rfl (Nat.le_of_ble_eq_true rfl) ?_
  intro p ev s m args below meth c A ls S hr hlk G hl
  have hx := S.1
  have hb := S.2.1
  have hown : s.vm.findClass RX4 = some m.cls := S.2.2.2.1
  have hts := S.2.2.2.2
  have hl : lv_has ls 2 [(0, .ref y)] := hl
  have hiX4 : ∀ w ∈ wsX40, w ∈ wsX4_save := by decide +kernel
  have hf7 := hts (.fieldLink RX4 7 "StrikingWorkModel" "now" "[I") (by decide +kernel)
  have hf16 := hts (.fieldLink RX4 16 "StrikingWorkModel" "past" "[I") (by decide +kernel)
  have hf26 := hts (.fieldLink RX4 26 "StrikingWorkModel" "states" "I") (by decide +kernel)
  refine lv_aload_n hx hb dX4_save_0 rfl (lv_at hl 0 rfl) ?_
  refine k_get (v := .int 3) S G 0 rfl rfl hiX4 3 (by decide) hf26 rfl dX4_save_1 ?_
  refine lv_iconst (v := 5) hx hb dX4_save_4 (by decide) ?_
  refine lv_icmp_ne (tgt := 48) hx hb dX4_save_5 (by decide) (fun c_1 => ?_) (fun c_1 => absurd c_1 (by decide))
  refine lv_aload_n hx hb dX4_save_48 rfl (lv_at hl 0 rfl) ?_
  refine k_get (v := .ref nw) S G 0 rfl rfl hiX4 0 (by decide) hf7 rfl dX4_save_49 ?_
  refine lv_iconst (v := 0) hx hb dX4_save_52 (by decide) ?_
  refine lv_aload_n hx hb dX4_save_53 rfl (lv_at hl 0 rfl) ?_
  refine k_get (v := .ref pa) S G 0 rfl rfl hiX4 2 (by decide) hf16 rfl dX4_save_54 ?_
  refine lv_bipush (v := 39) hx hb dX4_save_57 (by decide) ?_
  refine lv_aload_n hx hb dX4_save_59 rfl (lv_at hl 0 rfl) ?_
  refine k_get (v := .int 3) S G 0 rfl rfl hiX4 3 (by decide) hf26 rfl dX4_save_60 ?_
  refine lv_imul hx hb dX4_save_63 ?_
  refine lv_lit (v := 117) (by decide) ?_
  refine k_callS (n := 4) (As := [.ref nw, .int 0, .ref pa, .int 117]) (rest := []) (st1 := []) (ws1 := [(y, .inr (4, [.ref nw, .ref ad, .ref pa, .int 3, .ref eA, .long hs])), (nw, .inl (cI, 39, .inl f)), (ad, .inl (cI, 39, .inl g)), (pa, .inl (cI, 195, .inl (va_cpy f pf 0 117 39))), (eA, .inl (cI, 3, .inl z))]) S G (c_X4_copy l D cI cS nw pa 39 195 f pf 0 117 (by unfold cpOk; decide)) gX4_save_X4_copy rfl (by decide +kernel) ⟨⟨rfl, rfl⟩, Nat.le_of_ble_eq_true rfl, Nat.le_of_ble_eq_true rfl⟩ [1, 3] (by decide) rfl [nw, pa] rfl rfl rfl hl.1 rfl (Nat.le_of_ble_eq_true rfl) ⟨Nat.zero_le _, Nat.zero_le _⟩ dX4_save_64 rfl rfl (fun H locs G => ?_)
  refine lv_aload_n hx hb dX4_save_67 rfl (lv_at hl 0 rfl) ?_
  refine lv_dup hx hb dX4_save_68 rfl ?_
  refine k_get (v := .int 3) S G 0 rfl rfl hiX4 3 (by decide) hf26 rfl dX4_save_69 ?_
  refine lv_iconst (v := 1) hx hb dX4_save_72 (by decide) ?_
  refine lv_iadd hx hb dX4_save_73 ?_
  refine lv_lit (v := 4) (by decide) ?_
  refine k_put (ws1 := [(y, .inr (4, [.ref nw, .ref ad, .ref pa, .int 4, .ref eA, .long hs])), (nw, .inl (cI, 39, .inl f)), (ad, .inl (cI, 39, .inl g)), (pa, .inl (cI, 195, .inl (va_cpy f pf 0 117 39))), (eA, .inl (cI, 3, .inl z))]) S G 0 rfl rfl hiX4 tyX4 tyX4_ok nmX4 3 (by decide) hf26 rfl rfl rfl (Nat.le_of_ble_eq_true rfl) dX4_save_74 rfl (fun H locs G => ?_)
  exact k_vret S G hr hlk dX4_save_77 rfl
set_option maxHeartbeats 4000000 in
set_option maxRecDepth 100000 in
theorem c_X4_save_4 (l : Launch) (D : va_G) (cI cS : ClassId) (y : Nat) (nw : Nat) (ad : Nat) (pa : Nat) (eA : Nat) (hs : Int64) (f : Nat → Int32) (g : Nat → Int32) (pf : Nat → Int32) (z : Nat → Int32) : Ct l yX4_save wsX4_save ({ frames := 1, cells := 0, slots := 0, locals := 50 }) D (tyL cI cS) [.ref y] [(y, .inr (4, [.ref nw, .ref ad, .ref pa, .int 4, .ref eA, .long hs])), (nw, .inl (cI, 39, .inl f)), (ad, .inl (cI, 39, .inl g)), (pa, .inl (cI, 195, .inl pf)), (eA, .inl (cI, 3, .inl z))] none [(y, .inr (4, [.ref nw, .ref ad, .ref pa, .int 5, .ref eA, .long hs])), (nw, .inl (cI, 39, .inl f)), (ad, .inl (cI, 39, .inl g)), (pa, .inl (cI, 195, .inl (va_cpy f pf 0 156 39))), (eA, .inl (cI, 3, .inl z))] := by
  refine Ct.of (cc := cX4_save) (maxL := 2) (ret := none) (by decide) rfl (Nat.le_of_ble_eq_true rfl) ?_
  intro p ev s m args below meth c A ls S hr hlk G hl
  have hx := S.1
  have hb := S.2.1
  have hown : s.vm.findClass RX4 = some m.cls := S.2.2.2.1
  have hts := S.2.2.2.2
  have hl : lv_has ls 2 [(0, .ref y)] := hl
  have hiX4 : ∀ w ∈ wsX40, w ∈ wsX4_save := by decide +kernel
  have hf7 := hts (.fieldLink RX4 7 "StrikingWorkModel" "now" "[I") (by decide +kernel)
  have hf16 := hts (.fieldLink RX4 16 "StrikingWorkModel" "past" "[I") (by decide +kernel)
  have hf26 := hts (.fieldLink RX4 26 "StrikingWorkModel" "states" "I") (by decide +kernel)
  refine lv_aload_n hx hb dX4_save_0 rfl (lv_at hl 0 rfl) ?_
  refine k_get (v := .int 4) S G 0 rfl rfl hiX4 3 (by decide) hf26 rfl dX4_save_1 ?_
  refine lv_iconst (v := 5) hx hb dX4_save_4 (by decide) ?_
  refine lv_icmp_ne (tgt := 48) hx hb dX4_save_5 (by decide) (fun c_1 => ?_) (fun c_1 => absurd c_1 (by decide))
  refine lv_aload_n hx hb dX4_save_48 rfl (lv_at hl 0 rfl) ?_
  refine k_get (v := .ref nw) S G 0 rfl rfl hiX4 0 (by decide) hf7 rfl dX4_save_49 ?_
  refine lv_iconst (v := 0) hx hb dX4_save_52 (by decide) ?_
  refine lv_aload_n hx hb dX4_save_53 rfl (lv_at hl 0 rfl) ?_
  refine k_get (v := .ref pa) S G 0 rfl rfl hiX4 2 (by decide) hf16 rfl dX4_save_54 ?_
  refine lv_bipush (v := 39) hx hb dX4_save_57 (by decide) ?_
  refine lv_aload_n hx hb dX4_save_59 rfl (lv_at hl 0 rfl) ?_
  refine k_get (v := .int 4) S G 0 rfl rfl hiX4 3 (by decide) hf26 rfl dX4_save_60 ?_
  refine lv_imul hx hb dX4_save_63 ?_
  refine lv_lit (v := 156) (by decide) ?_
  refine k_callS (n := 4) (As := [.ref nw, .int 0, .ref pa, .int 156]) (rest := []) (st1 := []) (ws1 := [(y, .inr (4, [.ref nw, .ref ad, .ref pa, .int 4, .ref eA, .long hs])), (nw, .inl (cI, 39, .inl f)), (ad, .inl (cI, 39, .inl g)), (pa, .inl (cI, 195, .inl (va_cpy f pf 0 156 39))), (eA, .inl (cI, 3, .inl z))]) S G (c_X4_copy l D cI cS nw pa 39 195 f pf 0 156 (by unfold cpOk; decide)) gX4_save_X4_copy rfl (by decide +kernel) ⟨⟨rfl, rfl⟩, Nat.le_of_ble_eq_true rfl, Nat.le_of_ble_eq_true rfl⟩ [1, 3] (by decide) rfl [nw, pa] rfl rfl rfl hl.1 rfl (Nat.le_of_ble_eq_true rfl) ⟨Nat.zero_le _, Nat.zero_le _⟩ dX4_save_64 rfl rfl (fun H locs G => ?_)
  refine lv_aload_n hx hb dX4_save_67 rfl (lv_at hl 0 rfl) ?_
  refine lv_dup hx hb dX4_save_68 rfl ?_
  refine k_get (v := .int 4) S G 0 rfl rfl hiX4 3 (by decide) hf26 rfl dX4_save_69 ?_
  refine lv_iconst (v := 1) hx hb dX4_save_72 (by decide) ?_
  refine lv_iadd hx hb dX4_save_73 ?_
  refine lv_lit (v := 5) (by decide) ?_
  refine k_put (ws1 := [(y, .inr (4, [.ref nw, .ref ad, .ref pa, .int 5, .ref eA, .long hs])), (nw, .inl (cI, 39, .inl f)), (ad, .inl (cI, 39, .inl g)), (pa, .inl (cI, 195, .inl (va_cpy f pf 0 156 39))), (eA, .inl (cI, 3, .inl z))]) S G 0 rfl rfl hiX4 tyX4 tyX4_ok nmX4 3 (by decide) hf26 rfl rfl rfl (Nat.le_of_ble_eq_true rfl) dX4_save_74 rfl (fun H locs G => ?_)
  exact k_vret S G hr hlk dX4_save_77 rfl
def mSp (sn : Int32) (pf f : Nat → Int32) : Nat → Int32 := if sn = 5 then va_cpy f (va_cpy pf pf 39 0 156) 0 156 39 else va_cpy f pf 0 (39 * sn).toNatClampNeg 39
set_option maxHeartbeats 4000000 in
set_option maxRecDepth 100000 in
theorem c_X4_save (l : Launch) (D : va_G) (cI cS : ClassId) (y : Nat) (nw : Nat) (ad : Nat) (pa : Nat) (eA : Nat) (sn : Int32) (hs : Int64) (f : Nat → Int32) (g : Nat → Int32) (pf : Nat → Int32) (z : Nat → Int32) (hsn : scOk sn) : Ct l yX4_save wsX4_save ({ frames := 1, cells := 0, slots := 0, locals := 50 }) D (tyL cI cS) [.ref y] [(y, .inr (4, [.ref nw, .ref ad, .ref pa, .int sn, .ref eA, .long hs])), (nw, .inl (cI, 39, .inl f)), (ad, .inl (cI, 39, .inl g)), (pa, .inl (cI, 195, .inl pf)), (eA, .inl (cI, 3, .inl z))] none [(y, .inr (4, [.ref nw, .ref ad, .ref pa, .int (sSc sn), .ref eA, .long hs])), (nw, .inl (cI, 39, .inl f)), (ad, .inl (cI, 39, .inl g)), (pa, .inl (cI, 195, .inl (mSp sn pf f))), (eA, .inl (cI, 3, .inl z))] := by
  rcases scOk_cases hsn with rfl | rfl | rfl | rfl | rfl | rfl
  · exact c_X4_save_0 l D cI cS y nw ad pa eA hs f g pf z
  · exact c_X4_save_1 l D cI cS y nw ad pa eA hs f g pf z
  · exact c_X4_save_2 l D cI cS y nw ad pa eA hs f g pf z
  · exact c_X4_save_3 l D cI cS y nw ad pa eA hs f g pf z
  · exact c_X4_save_4 l D cI cS y nw ad pa eA hs f g pf z
  · exact c_X4_save_5 l D cI cS y nw ad pa eA hs f g pf z
