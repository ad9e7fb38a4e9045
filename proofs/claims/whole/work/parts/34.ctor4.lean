set_option maxHeartbeats 4000000 in
set_option maxRecDepth 100000 in
theorem c_X4_init (l : Launch) (D : va_G) (cI cS : ClassId) (y : Nat) : CtN l yX4_init wsX4_init ({ frames := 1, cells := 4, slots := 276, locals := 21 }) D (tyL cI cS) [.ref y] [(y, .inr (4, [.null, .null, .null, .int 0, .null, .long 0]))] 4 276 (fun bb => W4 cI y (bb 0) (bb 1) (bb 2) (bb 3) 0 0 r00 (fun _ => 0) (fun _ => 0) (fun _ => 0) []) := by
  refine CtN.of (cc := cX4_init) (maxL := 2) (ret := none) (by decide) rfl (Nat.le_of_ble_eq_true rfl) ?_
  intro p ev s m args below meth c A ls S hr hlk hin hN G hl
  have hx := S.1
  have hb := S.2.1
  have hown : s.vm.findClass RX4 = some m.cls := S.2.2.2.1
  have hts := S.2.2.2.2
  have hl : lv_has ls 2 [(0, .ref y)] := hl
  have hiX4 : ∀ w ∈ wsX40, w ∈ wsX4_init := by decide +kernel
  have hf7 := hts (.fieldLink RX4 7 "StrikingWorkModel" "now" "[I") (by decide +kernel)
  have hf13 := hts (.fieldLink RX4 13 "StrikingWorkModel" "aside" "[I") (by decide +kernel)
  have hf16 := hts (.fieldLink RX4 16 "StrikingWorkModel" "past" "[I") (by decide +kernel)
  have hf19 := hts (.fieldLink RX4 19 "StrikingWorkModel" "errors" "[I") (by decide +kernel)
  refine lv_aload_n hx hb dX4_init_0 rfl (lv_at hl 0 rfl) ?_
  refine k_objInit S hl.1 (hts (.methodLink RX4 1 objectInit) (by decide +kernel)) (hts (.instanceMethod objectInit) (by decide +kernel)) (hts (.code objectInit ⟨#[0xb1]⟩ 1 none) (List.mem_of_getElem? (i := 3) rfl)) dX4_init_1 (Nat.le_of_ble_eq_true rfl) (Nat.le_of_ble_eq_true rfl) ?_
  refine lv_aload_n hx hb dX4_init_4 rfl (lv_at hl 0 rfl) ?_
  refine lv_bipush (v := 39) hx hb dX4_init_5 (by decide) ?_
  refine k_newa (N := 39) (c1 := 1) (s1 := 39) S G 0 rfl (hts (.arrayClass .int) (by decide +kernel)) (by decide) (by decide) (by decide) rfl rfl (Nat.le_of_ble_eq_true rfl) (Nat.le_of_ble_eq_true rfl) dX4_init_7 (fun q7x0 H G => ?_)
  have G := Gd.eq (ws1 := [(y, .inr (4, [.null, .null, .null, .int 0, .null, .long 0])), (q7x0, .inl (cI, 39, .inl (fun _ => 0)))]) G rfl
  refine k_putF (ws1 := [(y, .inr (4, [.ref q7x0, .null, .null, .int 0, .null, .long 0])), (q7x0, .inl (cI, 39, .inl (fun _ => 0)))]) S G hin 0 rfl rfl hiX4 tyX4 tyX4_ok nmX4 0 (by decide) hf7 rfl rfl rfl rfl (Nat.le_of_ble_eq_true rfl) dX4_init_9 rfl (fun H locs G => ?_)
  refine lv_aload_n hx hb dX4_init_12 rfl (lv_at hl 0 rfl) ?_
  refine lv_bipush (v := 39) hx hb dX4_init_13 (by decide) ?_
  refine k_newa (N := 39) (c1 := 2) (s1 := 78) S G 0 rfl (hts (.arrayClass .int) (by decide +kernel)) (by decide) (by decide) (by decide) rfl rfl (Nat.le_of_ble_eq_true rfl) (Nat.le_of_ble_eq_true rfl) dX4_init_15 (fun q15x1 H G => ?_)
  have G := Gd.eq (ws1 := [(y, .inr (4, [.ref q7x0, .null, .null, .int 0, .null, .long 0])), (q7x0, .inl (cI, 39, .inl (fun _ => 0))), (q15x1, .inl (cI, 39, .inl (fun _ => 0)))]) G rfl
  refine k_putF (ws1 := [(y, .inr (4, [.ref q7x0, .ref q15x1, .null, .int 0, .null, .long 0])), (q7x0, .inl (cI, 39, .inl (fun _ => 0))), (q15x1, .inl (cI, 39, .inl (fun _ => 0)))]) S G hin 0 rfl rfl hiX4 tyX4 tyX4_ok nmX4 1 (by decide) hf13 rfl rfl rfl rfl (Nat.le_of_ble_eq_true rfl) dX4_init_17 rfl (fun H locs G => ?_)
  refine lv_aload_n hx hb dX4_init_20 rfl (lv_at hl 0 rfl) ?_
  refine lv_sipush (v := 195) hx hb dX4_init_21 (by decide) ?_
  refine k_newa (N := 195) (c1 := 3) (s1 := 273) S G 0 rfl (hts (.arrayClass .int) (by decide +kernel)) (by decide) (by decide) (by decide) rfl rfl (Nat.le_of_ble_eq_true rfl) (Nat.le_of_ble_eq_true rfl) dX4_init_24 (fun q24x2 H G => ?_)
  have G := Gd.eq (ws1 := [(y, .inr (4, [.ref q7x0, .ref q15x1, .null, .int 0, .null, .long 0])), (q7x0, .inl (cI, 39, .inl (fun _ => 0))), (q15x1, .inl (cI, 39, .inl (fun _ => 0))), (q24x2, .inl (cI, 195, .inl (fun _ => 0)))]) G rfl
  refine k_putF (ws1 := [(y, .inr (4, [.ref q7x0, .ref q15x1, .ref q24x2, .int 0, .null, .long 0])), (q7x0, .inl (cI, 39, .inl (fun _ => 0))), (q15x1, .inl (cI, 39, .inl (fun _ => 0))), (q24x2, .inl (cI, 195, .inl (fun _ => 0)))]) S G hin 0 rfl rfl hiX4 tyX4 tyX4_ok nmX4 2 (by decide) hf16 rfl rfl rfl rfl (Nat.le_of_ble_eq_true rfl) dX4_init_26 rfl (fun H locs G => ?_)
  refine lv_aload_n hx hb dX4_init_29 rfl (lv_at hl 0 rfl) ?_
  refine lv_iconst (v := 3) hx hb dX4_init_30 (by decide) ?_
  refine k_newa (N := 3) (c1 := 4) (s1 := 276) S G 0 rfl (hts (.arrayClass .int) (by decide +kernel)) (by decide) (by decide) (by decide) rfl rfl (Nat.le_of_ble_eq_true rfl) (Nat.le_of_ble_eq_true rfl) dX4_init_31 (fun q31x3 H G => ?_)
  have G := Gd.eq (ws1 := [(y, .inr (4, [.ref q7x0, .ref q15x1, .ref q24x2, .int 0, .null, .long 0])), (q7x0, .inl (cI, 39, .inl (fun _ => 0))), (q15x1, .inl (cI, 39, .inl (fun _ => 0))), (q24x2, .inl (cI, 195, .inl (fun _ => 0))), (q31x3, .inl (cI, 3, .inl (fun _ => 0)))]) G rfl
  refine k_putF (ws1 := [(y, .inr (4, [.ref q7x0, .ref q15x1, .ref q24x2, .int 0, .ref q31x3, .long 0])), (q7x0, .inl (cI, 39, .inl (fun _ => 0))), (q15x1, .inl (cI, 39, .inl (fun _ => 0))), (q24x2, .inl (cI, 195, .inl (fun _ => 0))), (q31x3, .inl (cI, 3, .inl (fun _ => 0)))]) S G hin 0 rfl rfl hiX4 tyX4 tyX4_ok nmX4 4 (by decide) hf19 rfl rfl rfl rfl (Nat.le_of_ble_eq_true rfl) dX4_init_33 rfl (fun H locs G => ?_)
  refine lv_iconst (v := 0) hx hb dX4_init_36 (by decide) ?_
  refine lv_istore_n (lv' := [(1, .int 0), (0, .ref y)]) hx hb dX4_init_37 rfl hl (by decide) rfl (fun ls hl => ?_)
  refine lv_iload_n hx hb dX4_init_38 rfl (lv_at hl 0 rfl) ?_
  refine lv_iconst (v := 2) hx hb dX4_init_39 (by decide) ?_
  refine lv_icmp_ge (tgt := 84) hx hb dX4_init_40 (by decide) (fun c_1 => absurd c_1 (by decide)) (fun c_1 => ?_)
  refine lv_aload_n hx hb dX4_init_43 rfl (lv_at hl 1 rfl) ?_
  refine k_get (v := .ref q7x0) S G 0 rfl rfl hiX4 0 (by decide) hf7 rfl dX4_init_44 ?_
  refine lv_iload_n hx hb dX4_init_47 rfl (lv_at hl 0 rfl) ?_
  refine lv_iconst (v := 0) hx hb dX4_init_48 (by decide) ?_
  refine k_callS (n := 2) (As := [.int 0, .int 0]) (rest := [.ref q7x0]) (st1 := [.int 4, .ref q7x0]) (ws1 := [(y, .inr (4, [.ref q7x0, .ref q15x1, .ref q24x2, .int 0, .ref q31x3, .long 0])), (q7x0, .inl (cI, 39, .inl (fun _ => 0))), (q15x1, .inl (cI, 39, .inl (fun _ => 0))), (q24x2, .inl (cI, 195, .inl (fun _ => 0))), (q31x3, .inl (cI, 3, .inl (fun _ => 0)))]) S G (c_X4_at l D cI cS 0 0) gX4_init_X4_at rfl (by decide +kernel) ⟨⟨rfl, rfl⟩, Nat.le_of_ble_eq_true rfl, Nat.le_of_ble_eq_true rfl⟩ [] (by decide) rfl [] rfl rfl rfl hl.1 rfl (Nat.le_of_ble_eq_true rfl) ⟨Nat.le_of_ble_eq_true rfl, Nat.le_of_ble_eq_true rfl⟩ dX4_init_49 (congrArg (fun z => Value.int z :: [.ref q7x0]) (by decide : (s_X4_at 0 0) = 4)) rfl (fun H locs G => ?_)
  refine lv_iconst (v := 1) hx hb dX4_init_52 (by decide) ?_
  refine k_iast (ws1 := [(y, .inr (4, [.ref q7x0, .ref q15x1, .ref q24x2, .int 0, .ref q31x3, .long 0])), (q7x0, .inl (cI, 39, .inl (upd (fun _ => 0) 4 1))), (q15x1, .inl (cI, 39, .inl (fun _ => 0))), (q24x2, .inl (cI, 195, .inl (fun _ => 0))), (q31x3, .inl (cI, 3, .inl (fun _ => 0)))]) S G 1 0 rfl rfl (by unfold vp_in; decide) dX4_init_53 rfl (fun H locs G => ?_)
  refine lv_aload_n hx hb dX4_init_54 rfl (lv_at hl 1 rfl) ?_
  refine k_get (v := .ref q7x0) S G 0 rfl rfl hiX4 0 (by decide) hf7 rfl dX4_init_55 ?_
  refine lv_iload_n hx hb dX4_init_58 rfl (lv_at hl 0 rfl) ?_
  refine lv_iconst (v := 1) hx hb dX4_init_59 (by decide) ?_
  refine k_callS (n := 2) (As := [.int 0, .int 1]) (rest := [.ref q7x0]) (st1 := [.int 5, .ref q7x0]) (ws1 := [(y, .inr (4, [.ref q7x0, .ref q15x1, .ref q24x2, .int 0, .ref q31x3, .long 0])), (q7x0, .inl (cI, 39, .inl (upd (fun _ => 0) 4 1))), (q15x1, .inl (cI, 39, .inl (fun _ => 0))), (q24x2, .inl (cI, 195, .inl (fun _ => 0))), (q31x3, .inl (cI, 3, .inl (fun _ => 0)))]) S G (c_X4_at l D cI cS 0 1) gX4_init_X4_at rfl (by decide +kernel) ⟨⟨rfl, rfl⟩, Nat.le_of_ble_eq_true rfl, Nat.le_of_ble_eq_true rfl⟩ [] (by decide) rfl [] rfl rfl rfl hl.1 rfl (Nat.le_of_ble_eq_true rfl) ⟨Nat.le_of_ble_eq_true rfl, Nat.le_of_ble_eq_true rfl⟩ dX4_init_60 (congrArg (fun z => Value.int z :: [.ref q7x0]) (by decide : (s_X4_at 0 1) = 5)) rfl (fun H locs G => ?_)
  refine lv_iconst (v := 1) hx hb dX4_init_63 (by decide) ?_
  refine k_iast (ws1 := [(y, .inr (4, [.ref q7x0, .ref q15x1, .ref q24x2, .int 0, .ref q31x3, .long 0])), (q7x0, .inl (cI, 39, .inl (upd (upd (fun _ => 0) 4 1) 5 1))), (q15x1, .inl (cI, 39, .inl (fun _ => 0))), (q24x2, .inl (cI, 195, .inl (fun _ => 0))), (q31x3, .inl (cI, 3, .inl (fun _ => 0)))]) S G 1 0 rfl rfl (by unfold vp_in; decide) dX4_init_64 rfl (fun H locs G => ?_)
  refine lv_aload_n hx hb dX4_init_65 rfl (lv_at hl 1 rfl) ?_
  refine k_get (v := .ref q7x0) S G 0 rfl rfl hiX4 0 (by decide) hf7 rfl dX4_init_66 ?_
  refine lv_iload_n hx hb dX4_init_69 rfl (lv_at hl 0 rfl) ?_
  refine lv_iconst (v := 2) hx hb dX4_init_70 (by decide) ?_
  refine k_callS (n := 2) (As := [.int 0, .int 2]) (rest := [.ref q7x0]) (st1 := [.int 6, .ref q7x0]) (ws1 := [(y, .inr (4, [.ref q7x0, .ref q15x1, .ref q24x2, .int 0, .ref q31x3, .long 0])), (q7x0, .inl (cI, 39, .inl (upd (upd (fun _ => 0) 4 1) 5 1))), (q15x1, .inl (cI, 39, .inl (fun _ => 0))), (q24x2, .inl (cI, 195, .inl (fun _ => 0))), (q31x3, .inl (cI, 3, .inl (fun _ => 0)))]) S G (c_X4_at l D cI cS 0 2) gX4_init_X4_at rfl (by decide +kernel) ⟨⟨rfl, rfl⟩, Nat.le_of_ble_eq_true rfl, Nat.le_of_ble_eq_true rfl⟩ [] (by decide) rfl [] rfl rfl rfl hl.1 rfl (Nat.le_of_ble_eq_true rfl) ⟨Nat.le_of_ble_eq_true rfl, Nat.le_of_ble_eq_true rfl⟩ dX4_init_71 (congrArg (fun z => Value.int z :: [.ref q7x0]) (by decide : (s_X4_at 0 2) = 6)) rfl (fun H locs G => ?_)
  refine lv_sipush (v := 2000) hx hb dX4_init_74 (by decide) ?_
  refine k_iast (ws1 := [(y, .inr (4, [.ref q7x0, .ref q15x1, .ref q24x2, .int 0, .ref q31x3, .long 0])), (q7x0, .inl (cI, 39, .inl (upd (upd (upd (fun _ => 0) 4 1) 5 1) 6 2000))), (q15x1, .inl (cI, 39, .inl (fun _ => 0))), (q24x2, .inl (cI, 195, .inl (fun _ => 0))), (q31x3, .inl (cI, 3, .inl (fun _ => 0)))]) S G 1 0 rfl rfl (by unfold vp_in; decide) dX4_init_77 rfl (fun H locs G => ?_)
  refine lv_iinc (v := 1) (lv' := [(1, .int 1), (0, .ref y)]) hx hb dX4_init_78 hl (k := 0) rfl (by decide) (by decide) rfl (fun ls hl => ?_)
  refine lv_goto (tgt := 38) hx hb dX4_init_81 (by decide) ?_
  refine lv_iload_n hx hb dX4_init_38 rfl (lv_at hl 0 rfl) ?_
  refine lv_iconst (v := 2) hx hb dX4_init_39 (by decide) ?_
  refine lv_icmp_ge (tgt := 84) hx hb dX4_init_40 (by decide) (fun c_2 => absurd c_2 (by decide)) (fun c_2 => ?_)
  refine lv_aload_n hx hb dX4_init_43 rfl (lv_at hl 1 rfl) ?_
  refine k_get (v := .ref q7x0) S G 0 rfl rfl hiX4 0 (by decide) hf7 rfl dX4_init_44 ?_
  refine lv_iload_n hx hb dX4_init_47 rfl (lv_at hl 0 rfl) ?_
  refine lv_iconst (v := 0) hx hb dX4_init_48 (by decide) ?_
  refine k_callS (n := 2) (As := [.int 1, .int 0]) (rest := [.ref q7x0]) (st1 := [.int 9, .ref q7x0]) (ws1 := [(y, .inr (4, [.ref q7x0, .ref q15x1, .ref q24x2, .int 0, .ref q31x3, .long 0])), (q7x0, .inl (cI, 39, .inl (upd (upd (upd (fun _ => 0) 4 1) 5 1) 6 2000))), (q15x1, .inl (cI, 39, .inl (fun _ => 0))), (q24x2, .inl (cI, 195, .inl (fun _ => 0))), (q31x3, .inl (cI, 3, .inl (fun _ => 0)))]) S G (c_X4_at l D cI cS 1 0) gX4_init_X4_at rfl (by decide +kernel) ⟨⟨rfl, rfl⟩, Nat.le_of_ble_eq_true rfl, Nat.le_of_ble_eq_true rfl⟩ [] (by decide) rfl [] rfl rfl rfl hl.1 rfl (Nat.le_of_ble_eq_true rfl) ⟨Nat.le_of_ble_eq_true rfl, Nat.le_of_ble_eq_true rfl⟩ dX4_init_49 (congrArg (fun z => Value.int z :: [.ref q7x0]) (by decide : (s_X4_at 1 0) = 9)) rfl (fun H locs G => ?_)
  refine lv_iconst (v := 1) hx hb dX4_init_52 (by decide) ?_
  refine k_iast (ws1 := [(y, .inr (4, [.ref q7x0, .ref q15x1, .ref q24x2, .int 0, .ref q31x3, .long 0])), (q7x0, .inl (cI, 39, .inl (upd (upd (upd (upd (fun _ => 0) 4 1) 5 1) 6 2000) 9 1))), (q15x1, .inl (cI, 39, .inl (fun _ => 0))), (q24x2, .inl (cI, 195, .inl (fun _ => 0))), (q31x3, .inl (cI, 3, .inl (fun _ => 0)))]) S G 1 0 rfl rfl (by unfold vp_in; decide) dX4_init_53 rfl (fun H locs G => ?_)
  refine lv_aload_n hx hb dX4_init_54 rfl (lv_at hl 1 rfl) ?_
  refine k_get (v := .ref q7x0) S G 0 rfl rfl hiX4 0 (by decide) hf7 rfl dX4_init_55 ?_
  refine lv_iload_n hx hb dX4_init_58 rfl (lv_at hl 0 rfl) ?_
  refine lv_iconst (v := 1) hx hb dX4_init_59 (by decide) ?_
  refine k_callS (n := 2) (As := [.int 1, .int 1]) (rest := [.ref q7x0]) (st1 := [.int 10, .ref q7x0]) (ws1 := [(y, .inr (4, [.ref q7x0, .ref q15x1, .ref q24x2, .int 0, .ref q31x3, .long 0])), (q7x0, .inl (cI, 39, .inl (upd (upd (upd (upd (fun _ => 0) 4 1) 5 1) 6 2000) 9 1))), (q15x1, .inl (cI, 39, .inl (fun _ => 0))), (q24x2, .inl (cI, 195, .inl (fun _ => 0))), (q31x3, .inl (cI, 3, .inl (fun _ => 0)))]) S G (c_X4_at l D cI cS 1 1) gX4_init_X4_at rfl (by decide +kernel) ⟨⟨rfl, rfl⟩, Nat.le_of_ble_eq_true rfl, Nat.le_of_ble_eq_true rfl⟩ [] (by decide) rfl [] rfl rfl rfl hl.1 rfl (Nat.le_of_ble_eq_true rfl) ⟨Nat.le_of_ble_eq_true rfl, Nat.le_of_ble_eq_true rfl⟩ dX4_init_60 (congrArg (fun z => Value.int z :: [.ref q7x0]) (by decide : (s_X4_at 1 1) = 10)) rfl (fun H locs G => ?_)
  refine lv_iconst (v := 1) hx hb dX4_init_63 (by decide) ?_
  refine k_iast (ws1 := [(y, .inr (4, [.ref q7x0, .ref q15x1, .ref q24x2, .int 0, .ref q31x3, .long 0])), (q7x0, .inl (cI, 39, .inl (upd (upd (upd (upd (upd (fun _ => 0) 4 1) 5 1) 6 2000) 9 1) 10 1))), (q15x1, .inl (cI, 39, .inl (fun _ => 0))), (q24x2, .inl (cI, 195, .inl (fun _ => 0))), (q31x3, .inl (cI, 3, .inl (fun _ => 0)))]) S G 1 0 rfl rfl (by unfold vp_in; decide) dX4_init_64 rfl (fun H locs G => ?_)
  refine lv_aload_n hx hb dX4_init_65 rfl (lv_at hl 1 rfl) ?_
  refine k_get (v := .ref q7x0) S G 0 rfl rfl hiX4 0 (by decide) hf7 rfl dX4_init_66 ?_
  refine lv_iload_n hx hb dX4_init_69 rfl (lv_at hl 0 rfl) ?_
  refine lv_iconst (v := 2) hx hb dX4_init_70 (by decide) ?_
  refine k_callS (n := 2) (As := [.int 1, .int 2]) (rest := [.ref q7x0]) (st1 := [.int 11, .ref q7x0]) (ws1 := [(y, .inr (4, [.ref q7x0, .ref q15x1, .ref q24x2, .int 0, .ref q31x3, .long 0])), (q7x0, .inl (cI, 39, .inl (upd (upd (upd (upd (upd (fun _ => 0) 4 1) 5 1) 6 2000) 9 1) 10 1))), (q15x1, .inl (cI, 39, .inl (fun _ => 0))), (q24x2, .inl (cI, 195, .inl (fun _ => 0))), (q31x3, .inl (cI, 3, .inl (fun _ => 0)))]) S G (c_X4_at l D cI cS 1 2) gX4_init_X4_at rfl (by decide +kernel) ⟨⟨rfl, rfl⟩, Nat.le_of_ble_eq_true rfl, Nat.le_of_ble_eq_true rfl⟩ [] (by decide) rfl [] rfl rfl rfl hl.1 rfl (Nat.le_of_ble_eq_true rfl) ⟨Nat.le_of_ble_eq_true rfl, Nat.le_of_ble_eq_true rfl⟩ dX4_init_71 (congrArg (fun z => Value.int z :: [.ref q7x0]) (by decide : (s_X4_at 1 2) = 11)) rfl (fun H locs G => ?_)
  refine lv_sipush (v := 2000) hx hb dX4_init_74 (by decide) ?_
  refine k_iast (ws1 := [(y, .inr (4, [.ref q7x0, .ref q15x1, .ref q24x2, .int 0, .ref q31x3, .long 0])), (q7x0, .inl (cI, 39, .inl (upd (upd (upd (upd (upd (upd (fun _ => 0) 4 1) 5 1) 6 2000) 9 1) 10 1) 11 2000))), (q15x1, .inl (cI, 39, .inl (fun _ => 0))), (q24x2, .inl (cI, 195, .inl (fun _ => 0))), (q31x3, .inl (cI, 3, .inl (fun _ => 0)))]) S G 1 0 rfl rfl (by unfold vp_in; decide) dX4_init_77 rfl (fun H locs G => ?_)
  refine lv_iinc (v := 2) (lv' := [(1, .int 2), (0, .ref y)]) hx hb dX4_init_78 hl (k := 0) rfl (by decide) (by decide) rfl (fun ls hl => ?_)
  refine lv_goto (tgt := 38) hx hb dX4_init_81 (by decide) ?_
  refine lv_iload_n hx hb dX4_init_38 rfl (lv_at hl 0 rfl) ?_
  refine lv_iconst (v := 2) hx hb dX4_init_39 (by decide) ?_
  refine lv_icmp_ge (tgt := 84) hx hb dX4_init_40 (by decide) (fun c_3 => ?_) (fun c_3 => absurd c_3 (by decide))
  have G := Gd.arr (ws1 := [(y, .inr (4, [.ref q7x0, .ref q15x1, .ref q24x2, .int 0, .ref q31x3, .long 0])), (q7x0, .inl (cI, 39, .inl r00)), (q15x1, .inl (cI, 39, .inl (fun _ => 0))), (q24x2, .inl (cI, 195, .inl (fun _ => 0))), (q31x3, .inl (cI, 3, .inl (fun _ => 0)))]) G 1 r00 rfl (all39 rfl rfl rfl rfl rfl rfl rfl rfl rfl rfl rfl rfl rfl rfl rfl rfl rfl rfl rfl rfl rfl rfl rfl rfl rfl rfl rfl rfl rfl rfl rfl rfl rfl rfl rfl rfl rfl rfl rfl) rfl
  exact k_nret (fun j => if j = 0 then q7x0 else if j = 1 then q15x1 else if j = 2 then q24x2 else q31x3) S G hr hlk dX4_init_84 rfl
