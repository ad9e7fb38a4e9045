def shf (x : Int32) (f : Nat → Int32) : Nat → Int32 := fun i => if i = 0 then x else f (i - 1)
set_option maxHeartbeats 4000000 in
set_option maxRecDepth 100000 in
theorem c_X1_put (l : Launch) (D : va_G) (cI cS : ClassId) (k : Nat) (km : Nat) (kt : Nat) (kb : Nat) (cn : Int32) (fm : Nat → Int32) (ft : Nat → Int32) (fb : Nat → Int32) (q : Int32) (tr : Int32) (sb : Int32) : Ct l yX1_put wsX1_put ({ frames := 1, cells := 0, slots := 0, locals := 14 }) D (tyL cI cS) [.ref k, .int q, .int tr, .int sb] [(k, .inr (1, [.ref km, .ref kt, .ref kb, .int cn])), (km, .inl (cI, 6, .inl fm)), (kt, .inl (cI, 6, .inl ft)), (kb, .inl (cI, 6, .inl fb))] none [(k, .inr (1, [.ref km, .ref kt, .ref kb, .int (if 6 < (cn + 1) then 6 else (cn + 1))])), (km, .inl (cI, 6, .inl (shf q fm))), (kt, .inl (cI, 6, .inl (shf tr ft))), (kb, .inl (cI, 6, .inl (shf sb fb)))] := by
  refine Ct.of (cc := cX1_put) (maxL := 5) (ret := none) (by decide) rfl (Nat.le_of_ble_eq_true rfl) ?_
  intro p ev s m args below meth c A ls S hr hlk G hl
  have hx := S.1
  have hb := S.2.1
  have hown : s.vm.findClass RX1 = some m.cls := S.2.2.2.1
  have hts := S.2.2.2.2
  have hl : lv_has ls 5 [(0, .ref k), (1, .int q), (2, .int tr), (3, .int sb)] := hl
  have hiX1 : ∀ w ∈ wsX10, w ∈ wsX1_put := by decide +kernel
  have hf9 := hts (.fieldLink RX1 9 "StrikingWork$Strikes" "minutes" "[I") (by decide +kernel)
  have hf15 := hts (.fieldLink RX1 15 "StrikingWork$Strikes" "trains" "[I") (by decide +kernel)
  have hf18 := hts (.fieldLink RX1 18 "StrikingWork$Strikes" "blows" "[I") (by decide +kernel)
  have hf21 := hts (.fieldLink RX1 21 "StrikingWork$Strikes" "count" "I") (by decide +kernel)
  have hmL := hts (.methodLink RX1 25 Lib.Math.min.name) (by decide +kernel)
  have hmS := hts (.static Lib.Math.min.name) (by decide +kernel)
  have hmI := hts (.initialized "java/lang/Math") (by decide +kernel)
  have hmC := hts (.code Lib.Math.min.name Lib.Math.min.code 2 (some .int)) (by decide +kernel)
  refine lv_iconst (v := 5) hx hb dX1_put_0 (by decide) ?_
  refine lv_istore (lv' := [(4, .int 5), (0, .ref k), (1, .int q), (2, .int tr), (3, .int sb)]) hx hb dX1_put_1 hl (by decide) rfl (fun ls hl => ?_)
  refine lv_iload hx hb dX1_put_3 (lv_at hl 0 rfl) ?_
  refine lv_if_le (tgt := 62) hx hb dX1_put_5 (by decide) (fun c_1 => absurd c_1 (by decide)) (fun c_1 => ?_)
  refine lv_aload_n hx hb dX1_put_8 rfl (lv_at hl 1 rfl) ?_
  refine k_get (v := .ref km) S G 0 rfl rfl hiX1 0 (by decide) hf9 rfl dX1_put_9 ?_
  refine lv_iload hx hb dX1_put_12 (lv_at hl 0 rfl) ?_
  refine lv_aload_n hx hb dX1_put_14 rfl (lv_at hl 1 rfl) ?_
  refine k_get (v := .ref km) S G 0 rfl rfl hiX1 0 (by decide) hf9 rfl dX1_put_15 ?_
  refine lv_iload hx hb dX1_put_18 (lv_at hl 0 rfl) ?_
  refine lv_iconst (v := 1) hx hb dX1_put_20 (by decide) ?_
  refine lv_isub hx hb dX1_put_21 ?_
  refine lv_lit (v := 4) (by decide) ?_
  refine k_iald (x := (fm 4)) S G 1 0 rfl rfl (by unfold vp_in; decide) rfl dX1_put_22 ?_
  refine k_iast (ws1 := [(k, .inr (1, [.ref km, .ref kt, .ref kb, .int cn])), (km, .inl (cI, 6, .inl (upd fm 5 (fm 4)))), (kt, .inl (cI, 6, .inl ft)), (kb, .inl (cI, 6, .inl fb))]) S G 1 0 rfl rfl (by unfold vp_in; decide) dX1_put_23 rfl (fun H locs G => ?_)
  refine lv_aload_n hx hb dX1_put_24 rfl (lv_at hl 1 rfl) ?_
  refine k_get (v := .ref kt) S G 0 rfl rfl hiX1 1 (by decide) hf15 rfl dX1_put_25 ?_
  refine lv_iload hx hb dX1_put_28 (lv_at hl 0 rfl) ?_
  refine lv_aload_n hx hb dX1_put_30 rfl (lv_at hl 1 rfl) ?_
  refine k_get (v := .ref kt) S G 0 rfl rfl hiX1 1 (by decide) hf15 rfl dX1_put_31 ?_
  refine lv_iload hx hb dX1_put_34 (lv_at hl 0 rfl) ?_
  refine lv_iconst (v := 1) hx hb dX1_put_36 (by decide) ?_
  refine lv_isub hx hb dX1_put_37 ?_
  refine lv_lit (v := 4) (by decide) ?_
  refine k_iald (x := (ft 4)) S G 2 0 rfl rfl (by unfold vp_in; decide) rfl dX1_put_38 ?_
  refine k_iast (ws1 := [(k, .inr (1, [.ref km, .ref kt, .ref kb, .int cn])), (km, .inl (cI, 6, .inl (upd fm 5 (fm 4)))), (kt, .inl (cI, 6, .inl (upd ft 5 (ft 4)))), (kb, .inl (cI, 6, .inl fb))]) S G 2 0 rfl rfl (by unfold vp_in; decide) dX1_put_39 rfl (fun H locs G => ?_)
  refine lv_aload_n hx hb dX1_put_40 rfl (lv_at hl 1 rfl) ?_
  refine k_get (v := .ref kb) S G 0 rfl rfl hiX1 2 (by decide) hf18 rfl dX1_put_41 ?_
  refine lv_iload hx hb dX1_put_44 (lv_at hl 0 rfl) ?_
  refine lv_aload_n hx hb dX1_put_46 rfl (lv_at hl 1 rfl) ?_
  refine k_get (v := .ref kb) S G 0 rfl rfl hiX1 2 (by decide) hf18 rfl dX1_put_47 ?_
  refine lv_iload hx hb dX1_put_50 (lv_at hl 0 rfl) ?_
  refine lv_iconst (v := 1) hx hb dX1_put_52 (by decide) ?_
  refine lv_isub hx hb dX1_put_53 ?_
  refine lv_lit (v := 4) (by decide) ?_
  refine k_iald (x := (fb 4)) S G 3 0 rfl rfl (by unfold vp_in; decide) rfl dX1_put_54 ?_
  refine k_iast (ws1 := [(k, .inr (1, [.ref km, .ref kt, .ref kb, .int cn])), (km, .inl (cI, 6, .inl (upd fm 5 (fm 4)))), (kt, .inl (cI, 6, .inl (upd ft 5 (ft 4)))), (kb, .inl (cI, 6, .inl (upd fb 5 (fb 4))))]) S G 3 0 rfl rfl (by unfold vp_in; decide) dX1_put_55 rfl (fun H locs G => ?_)
  refine lv_iinc (v := 4) (lv' := [(4, .int 4), (0, .ref k), (1, .int q), (2, .int tr), (3, .int sb)]) hx hb dX1_put_56 hl (k := 0) rfl (by decide) (by decide) rfl (fun ls hl => ?_)
  refine lv_goto (tgt := 3) hx hb dX1_put_59 (by decide) ?_
  refine lv_iload hx hb dX1_put_3 (lv_at hl 0 rfl) ?_
  refine lv_if_le (tgt := 62) hx hb dX1_put_5 (by decide) (fun c_2 => absurd c_2 (by decide)) (fun c_2 => ?_)
  refine lv_aload_n hx hb dX1_put_8 rfl (lv_at hl 1 rfl) ?_
  refine k_get (v := .ref km) S G 0 rfl rfl hiX1 0 (by decide) hf9 rfl dX1_put_9 ?_
  refine lv_iload hx hb dX1_put_12 (lv_at hl 0 rfl) ?_
  refine lv_aload_n hx hb dX1_put_14 rfl (lv_at hl 1 rfl) ?_
  refine k_get (v := .ref km) S G 0 rfl rfl hiX1 0 (by decide) hf9 rfl dX1_put_15 ?_
  refine lv_iload hx hb dX1_put_18 (lv_at hl 0 rfl) ?_
  refine lv_iconst (v := 1) hx hb dX1_put_20 (by decide) ?_
  refine lv_isub hx hb dX1_put_21 ?_
  refine lv_lit (v := 3) (by decide) ?_
  refine k_iald (x := (fm 3)) S G 1 0 rfl rfl (by unfold vp_in; decide) rfl dX1_put_22 ?_
  refine k_iast (ws1 := [(k, .inr (1, [.ref km, .ref kt, .ref kb, .int cn])), (km, .inl (cI, 6, .inl (upd (upd fm 5 (fm 4)) 4 (fm 3)))), (kt, .inl (cI, 6, .inl (upd ft 5 (ft 4)))), (kb, .inl (cI, 6, .inl (upd fb 5 (fb 4))))]) S G 1 0 rfl rfl (by unfold vp_in; decide) dX1_put_23 rfl (fun H locs G => ?_)
  refine lv_aload_n hx hb dX1_put_24 rfl (lv_at hl 1 rfl) ?_
  refine k_get (v := .ref kt) S G 0 rfl rfl hiX1 1 (by decide) hf15 rfl dX1_put_25 ?_
  refine lv_iload hx hb dX1_put_28 (lv_at hl 0 rfl) ?_
  refine lv_aload_n hx hb dX1_put_30 rfl (lv_at hl 1 rfl) ?_
  refine k_get (v := .ref kt) S G 0 rfl rfl hiX1 1 (by decide) hf15 rfl dX1_put_31 ?_
  refine lv_iload hx hb dX1_put_34 (lv_at hl 0 rfl) ?_
  refine lv_iconst (v := 1) hx hb dX1_put_36 (by decide) ?_
  refine lv_isub hx hb dX1_put_37 ?_
  refine lv_lit (v := 3) (by decide) ?_
  refine k_iald (x := (ft 3)) S G 2 0 rfl rfl (by unfold vp_in; decide) rfl dX1_put_38 ?_
  refine k_iast (ws1 := [(k, .inr (1, [.ref km, .ref kt, .ref kb, .int cn])), (km, .inl (cI, 6, .inl (upd (upd fm 5 (fm 4)) 4 (fm 3)))), (kt, .inl (cI, 6, .inl (upd (upd ft 5 (ft 4)) 4 (ft 3)))), (kb, .inl (cI, 6, .inl (upd fb 5 (fb 4))))]) S G 2 0 rfl rfl (by unfold vp_in; decide) dX1_put_39 rfl (fun H locs G => ?_)
  refine lv_aload_n hx hb dX1_put_40 rfl (lv_at hl 1 rfl) ?_
  refine k_get (v := .ref kb) S G 0 rfl rfl hiX1 2 (by decide) hf18 rfl dX1_put_41 ?_
  refine lv_iload hx hb dX1_put_44 (lv_at hl 0 rfl) ?_
  refine lv_aload_n hx hb dX1_put_46 rfl (lv_at hl 1 rfl) ?_
  refine k_get (v := .ref kb) S G 0 rfl rfl hiX1 2 (by decide) hf18 rfl dX1_put_47 ?_
  refine lv_iload hx hb dX1_put_50 (lv_at hl 0 rfl) ?_
  refine lv_iconst (v := 1) hx hb dX1_put_52 (by decide) ?_
  refine lv_isub hx hb dX1_put_53 ?_
  refine lv_lit (v := 3) (by decide) ?_
  refine k_iald (x := (fb 3)) S G 3 0 rfl rfl (by unfold vp_in; decide) rfl dX1_put_54 ?_
  refine k_iast (ws1 := [(k, .inr (1, [.ref km, .ref kt, .ref kb, .int cn])), (km, .inl (cI, 6, .inl (upd (upd fm 5 (fm 4)) 4 (fm 3)))), (kt, .inl (cI, 6, .inl (upd (upd ft 5 (ft 4)) 4 (ft 3)))), (kb, .inl (cI, 6, .inl (upd (upd fb 5 (fb 4)) 4 (fb 3))))]) S G 3 0 rfl rfl (by unfold vp_in; decide) dX1_put_55 rfl (fun H locs G => ?_)
  refine lv_iinc (v := 3) (lv' := [(4, .int 3), (0, .ref k), (1, .int q), (2, .int tr), (3, .int sb)]) hx hb dX1_put_56 hl (k := 0) rfl (by decide) (by decide) rfl (fun ls hl => ?_)
  refine lv_goto (tgt := 3) hx hb dX1_put_59 (by decide) ?_
  refine lv_iload hx hb dX1_put_3 (lv_at hl 0 rfl) ?_
  refine lv_if_le (tgt := 62) hx hb dX1_put_5 (by decide) (fun c_3 => absurd c_3 (by decide)) (fun c_3 => ?_)
  refine lv_aload_n hx hb dX1_put_8 rfl (lv_at hl 1 rfl) ?_
  refine k_get (v := .ref km) S G 0 rfl rfl hiX1 0 (by decide) hf9 rfl dX1_put_9 ?_
  refine lv_iload hx hb dX1_put_12 (lv_at hl 0 rfl) ?_
  refine lv_aload_n hx hb dX1_put_14 rfl (lv_at hl 1 rfl) ?_
  refine k_get (v := .ref km) S G 0 rfl rfl hiX1 0 (by decide) hf9 rfl dX1_put_15 ?_
  refine lv_iload hx hb dX1_put_18 (lv_at hl 0 rfl) ?_
  refine lv_iconst (v := 1) hx hb dX1_put_20 (by decide) ?_
  refine lv_isub hx hb dX1_put_21 ?_
  refine lv_lit (v := 2) (by decide) ?_
  refine k_iald (x := (fm 2)) S G 1 0 rfl rfl (by unfold vp_in; decide) rfl dX1_put_22 ?_
  refine k_iast (ws1 := [(k, .inr (1, [.ref km, .ref kt, .ref kb, .int cn])), (km, .inl (cI, 6, .inl (upd (upd (upd fm 5 (fm 4)) 4 (fm 3)) 3 (fm 2)))), (kt, .inl (cI, 6, .inl (upd (upd ft 5 (ft 4)) 4 (ft 3)))), (kb, .inl (cI, 6, .inl (upd (upd fb 5 (fb 4)) 4 (fb 3))))]) S G 1 0 rfl rfl (by unfold vp_in; decide) dX1_put_23 rfl (fun H locs G => ?_)
  refine lv_aload_n hx hb dX1_put_24 rfl (lv_at hl 1 rfl) ?_
  refine k_get (v := .ref kt) S G 0 rfl rfl hiX1 1 (by decide) hf15 rfl dX1_put_25 ?_
  refine lv_iload hx hb dX1_put_28 (lv_at hl 0 rfl) ?_
  refine lv_aload_n hx hb dX1_put_30 rfl (lv_at hl 1 rfl) ?_
  refine k_get (v := .ref kt) S G 0 rfl rfl hiX1 1 (by decide) hf15 rfl dX1_put_31 ?_
  refine lv_iload hx hb dX1_put_34 (lv_at hl 0 rfl) ?_
  refine lv_iconst (v := 1) hx hb dX1_put_36 (by decide) ?_
  refine lv_isub hx hb dX1_put_37 ?_
  refine lv_lit (v := 2) (by decide) ?_
  refine k_iald (x := (ft 2)) S G 2 0 rfl rfl (by unfold vp_in; decide) rfl dX1_put_38 ?_
  refine k_iast (ws1 := [(k, .inr (1, [.ref km, .ref kt, .ref kb, .int cn])), (km, .inl (cI, 6, .inl (upd (upd (upd fm 5 (fm 4)) 4 (fm 3)) 3 (fm 2)))), (kt, .inl (cI, 6, .inl (upd (upd (upd ft 5 (ft 4)) 4 (ft 3)) 3 (ft 2)))), (kb, .inl (cI, 6, .inl (upd (upd fb 5 (fb 4)) 4 (fb 3))))]) S G 2 0 rfl rfl (by unfold vp_in; decide) dX1_put_39 rfl (fun H locs G => ?_)
  refine lv_aload_n hx hb dX1_put_40 rfl (lv_at hl 1 rfl) ?_
  refine k_get (v := .ref kb) S G 0 rfl rfl hiX1 2 (by decide) hf18 rfl dX1_put_41 ?_
  refine lv_iload hx hb dX1_put_44 (lv_at hl 0 rfl) ?_
  refine lv_aload_n hx hb dX1_put_46 rfl (lv_at hl 1 rfl) ?_
  refine k_get (v := .ref kb) S G 0 rfl rfl hiX1 2 (by decide) hf18 rfl dX1_put_47 ?_
  refine lv_iload hx hb dX1_put_50 (lv_at hl 0 rfl) ?_
  refine lv_iconst (v := 1) hx hb dX1_put_52 (by decide) ?_
  refine lv_isub hx hb dX1_put_53 ?_
  refine lv_lit (v := 2) (by decide) ?_
  refine k_iald (x := (fb 2)) S G 3 0 rfl rfl (by unfold vp_in; decide) rfl dX1_put_54 ?_
  refine k_iast (ws1 := [(k, .inr (1, [.ref km, .ref kt, .ref kb, .int cn])), (km, .inl (cI, 6, .inl (upd (upd (upd fm 5 (fm 4)) 4 (fm 3)) 3 (fm 2)))), (kt, .inl (cI, 6, .inl (upd (upd (upd ft 5 (ft 4)) 4 (ft 3)) 3 (ft 2)))), (kb, .inl (cI, 6, .inl (upd (upd (upd fb 5 (fb 4)) 4 (fb 3)) 3 (fb 2))))]) S G 3 0 rfl rfl (by unfold vp_in; decide) dX1_put_55 rfl (fun H locs G => ?_)
  refine lv_iinc (v := 2) (lv' := [(4, .int 2), (0, .ref k), (1, .int q), (2, .int tr), (3, .int sb)]) hx hb dX1_put_56 hl (k := 0) rfl (by decide) (by decide) rfl (fun ls hl => ?_)
  refine lv_goto (tgt := 3) hx hb dX1_put_59 (by decide) ?_
  refine lv_iload hx hb dX1_put_3 (lv_at hl 0 rfl) ?_
  refine lv_if_le (tgt := 62) hx hb dX1_put_5 (by decide) (fun c_4 => absurd c_4 (by decide)) (fun c_4 => ?_)
  refine lv_aload_n hx hb dX1_put_8 rfl (lv_at hl 1 rfl) ?_
  refine k_get (v := .ref km) S G 0 rfl rfl hiX1 0 (by decide) hf9 rfl dX1_put_9 ?_
  refine lv_iload hx hb dX1_put_12 (lv_at hl 0 rfl) ?_
  refine lv_aload_n hx hb dX1_put_14 rfl (lv_at hl 1 rfl) ?_
  refine k_get (v := .ref km) S G 0 rfl rfl hiX1 0 (by decide) hf9 rfl dX1_put_15 ?_
  refine lv_iload hx hb dX1_put_18 (lv_at hl 0 rfl) ?_
  refine lv_iconst (v := 1) hx hb dX1_put_20 (by decide) ?_
  refine lv_isub hx hb dX1_put_21 ?_
  refine lv_lit (v := 1) (by decide) ?_
  refine k_iald (x := (fm 1)) S G 1 0 rfl rfl (by unfold vp_in; decide) rfl dX1_put_22 ?_
  refine k_iast (ws1 := [(k, .inr (1, [.ref km, .ref kt, .ref kb, .int cn])), (km, .inl (cI, 6, .inl (upd (upd (upd (upd fm 5 (fm 4)) 4 (fm 3)) 3 (fm 2)) 2 (fm 1)))), (kt, .inl (cI, 6, .inl (upd (upd (upd ft 5 (ft 4)) 4 (ft 3)) 3 (ft 2)))), (kb, .inl (cI, 6, .inl (upd (upd (upd fb 5 (fb 4)) 4 (fb 3)) 3 (fb 2))))]) S G 1 0 rfl rfl (by unfold vp_in; decide) dX1_put_23 rfl (fun H locs G => ?_)
  refine lv_aload_n hx hb dX1_put_24 rfl (lv_at hl 1 rfl) ?_
  refine k_get (v := .ref kt) S G 0 rfl rfl hiX1 1 (by decide) hf15 rfl dX1_put_25 ?_
  refine lv_iload hx hb dX1_put_28 (lv_at hl 0 rfl) ?_
  refine lv_aload_n hx hb dX1_put_30 rfl (lv_at hl 1 rfl) ?_
  refine k_get (v := .ref kt) S G 0 rfl rfl hiX1 1 (by decide) hf15 rfl dX1_put_31 ?_
  refine lv_iload hx hb dX1_put_34 (lv_at hl 0 rfl) ?_
  refine lv_iconst (v := 1) hx hb dX1_put_36 (by decide) ?_
  refine lv_isub hx hb dX1_put_37 ?_
  refine lv_lit (v := 1) (by decide) ?_
  refine k_iald (x := (ft 1)) S G 2 0 rfl rfl (by unfold vp_in; decide) rfl dX1_put_38 ?_
  refine k_iast (ws1 := [(k, .inr (1, [.ref km, .ref kt, .ref kb, .int cn])), (km, .inl (cI, 6, .inl (upd (upd (upd (upd fm 5 (fm 4)) 4 (fm 3)) 3 (fm 2)) 2 (fm 1)))), (kt, .inl (cI, 6, .inl (upd (upd (upd (upd ft 5 (ft 4)) 4 (ft 3)) 3 (ft 2)) 2 (ft 1)))), (kb, .inl (cI, 6, .inl (upd (upd (upd fb 5 (fb 4)) 4 (fb 3)) 3 (fb 2))))]) S G 2 0 rfl rfl (by unfold vp_in; decide) dX1_put_39 rfl (fun H locs G => ?_)
  refine lv_aload_n hx hb dX1_put_40 rfl (lv_at hl 1 rfl) ?_
  refine k_get (v := .ref kb) S G 0 rfl rfl hiX1 2 (by decide) hf18 rfl dX1_put_41 ?_
  refine lv_iload hx hb dX1_put_44 (lv_at hl 0 rfl) ?_
  refine lv_aload_n hx hb dX1_put_46 rfl (lv_at hl 1 rfl) ?_
  refine k_get (v := .ref kb) S G 0 rfl rfl hiX1 2 (by decide) hf18 rfl dX1_put_47 ?_
  refine lv_iload hx hb dX1_put_50 (lv_at hl 0 rfl) ?_
  refine lv_iconst (v := 1) hx hb dX1_put_52 (by decide) ?_
  refine lv_isub hx hb dX1_put_53 ?_
  refine lv_lit (v := 1) (by decide) ?_
  refine k_iald (x := (fb 1)) S G 3 0 rfl rfl (by unfold vp_in; decide) rfl dX1_put_54 ?_
  refine k_iast (ws1 := [(k, .inr (1, [.ref km, .ref kt, .ref kb, .int cn])), (km, .inl (cI, 6, .inl (upd (upd (upd (upd fm 5 (fm 4)) 4 (fm 3)) 3 (fm 2)) 2 (fm 1)))), (kt, .inl (cI, 6, .inl (upd (upd (upd (upd ft 5 (ft 4)) 4 (ft 3)) 3 (ft 2)) 2 (ft 1)))), (kb, .inl (cI, 6, .inl (upd (upd (upd (upd fb 5 (fb 4)) 4 (fb 3)) 3 (fb 2)) 2 (fb 1))))]) S G 3 0 rfl rfl (by unfold vp_in; decide) dX1_put_55 rfl (fun H locs G => ?_)
  refine lv_iinc (v := 1) (lv' := [(4, .int 1), (0, .ref k), (1, .int q), (2, .int tr), (3, .int sb)]) hx hb dX1_put_56 hl (k := 0) rfl (by decide) (by decide) rfl (fun ls hl => ?_)
  refine lv_goto (tgt := 3) hx hb dX1_put_59 (by decide) ?_
  refine lv_iload hx hb dX1_put_3 (lv_at hl 0 rfl) ?_
  refine lv_if_le (tgt := 62) hx hb dX1_put_5 (by decide) (fun c_5 => absurd c_5 (by decide)) (fun c_5 => ?_)
  refine lv_aload_n hx hb dX1_put_8 rfl (lv_at hl 1 rfl) ?_
  refine k_get (v := .ref km) S G 0 rfl rfl hiX1 0 (by decide) hf9 rfl dX1_put_9 ?_
  refine lv_iload hx hb dX1_put_12 (lv_at hl 0 rfl) ?_
  refine lv_aload_n hx hb dX1_put_14 rfl (lv_at hl 1 rfl) ?_
  refine k_get (v := .ref km) S G 0 rfl rfl hiX1 0 (by decide) hf9 rfl dX1_put_15 ?_
  refine lv_iload hx hb dX1_put_18 (lv_at hl 0 rfl) ?_
  refine lv_iconst (v := 1) hx hb dX1_put_20 (by decide) ?_
  refine lv_isub hx hb dX1_put_21 ?_
  refine lv_lit (v := 0) (by decide) ?_
  refine k_iald (x := (fm 0)) S G 1 0 rfl rfl (by unfold vp_in; decide) rfl dX1_put_22 ?_
  refine k_iast (ws1 := [(k, .inr (1, [.ref km, .ref kt, .ref kb, .int cn])), (km, .inl (cI, 6, .inl (upd (upd (upd (upd (upd fm 5 (fm 4)) 4 (fm 3)) 3 (fm 2)) 2 (fm 1)) 1 (fm 0)))), (kt, .inl (cI, 6, .inl (upd (upd (upd (upd ft 5 (ft 4)) 4 (ft 3)) 3 (ft 2)) 2 (ft 1)))), (kb, .inl (cI, 6, .inl (upd (upd (upd (upd fb 5 (fb 4)) 4 (fb 3)) 3 (fb 2)) 2 (fb 1))))]) S G 1 0 rfl rfl (by unfold vp_in; decide) dX1_put_23 rfl (fun H locs G => ?_)
  refine lv_aload_n hx hb dX1_put_24 rfl (lv_at hl 1 rfl) ?_
  refine k_get (v := .ref kt) S G 0 rfl rfl hiX1 1 (by decide) hf15 rfl dX1_put_25 ?_
  refine lv_iload hx hb dX1_put_28 (lv_at hl 0 rfl) ?_
  refine lv_aload_n hx hb dX1_put_30 rfl (lv_at hl 1 rfl) ?_
  refine k_get (v := .ref kt) S G 0 rfl rfl hiX1 1 (by decide) hf15 rfl dX1_put_31 ?_
  refine lv_iload hx hb dX1_put_34 (lv_at hl 0 rfl) ?_
  refine lv_iconst (v := 1) hx hb dX1_put_36 (by decide) ?_
  refine lv_isub hx hb dX1_put_37 ?_
  refine lv_lit (v := 0) (by decide) ?_
  refine k_iald (x := (ft 0)) S G 2 0 rfl rfl (by unfold vp_in; decide) rfl dX1_put_38 ?_
  refine k_iast (ws1 := [(k, .inr (1, [.ref km, .ref kt, .ref kb, .int cn])), (km, .inl (cI, 6, .inl (upd (upd (upd (upd (upd fm 5 (fm 4)) 4 (fm 3)) 3 (fm 2)) 2 (fm 1)) 1 (fm 0)))), (kt, .inl (cI, 6, .inl (upd (upd (upd (upd (upd ft 5 (ft 4)) 4 (ft 3)) 3 (ft 2)) 2 (ft 1)) 1 (ft 0)))), (kb, .inl (cI, 6, .inl (upd (upd (upd (upd fb 5 (fb 4)) 4 (fb 3)) 3 (fb 2)) 2 (fb 1))))]) S G 2 0 rfl rfl (by unfold vp_in; decide) dX1_put_39 rfl (fun H locs G => ?_)
  refine lv_aload_n hx hb dX1_put_40 rfl (lv_at hl 1 rfl) ?_
  refine k_get (v := .ref kb) S G 0 rfl rfl hiX1 2 (by decide) hf18 rfl dX1_put_41 ?_
  refine lv_iload hx hb dX1_put_44 (lv_at hl 0 rfl) ?_
  refine lv_aload_n hx hb dX1_put_46 rfl (lv_at hl 1 rfl) ?_
  refine k_get (v := .ref kb) S G 0 rfl rfl hiX1 2 (by decide) hf18 rfl dX1_put_47 ?_
  refine lv_iload hx hb dX1_put_50 (lv_at hl 0 rfl) ?_
  refine lv_iconst (v := 1) hx hb dX1_put_52 (by decide) ?_
  refine lv_isub hx hb dX1_put_53 ?_
  refine lv_lit (v := 0) (by decide) ?_
  refine k_iald (x := (fb 0)) S G 3 0 rfl rfl (by unfold vp_in; decide) rfl dX1_put_54 ?_
  refine k_iast (ws1 := [(k, .inr (1, [.ref km, .ref kt, .ref kb, .int cn])), (km, .inl (cI, 6, .inl (upd (upd (upd (upd (upd fm 5 (fm 4)) 4 (fm 3)) 3 (fm 2)) 2 (fm 1)) 1 (fm 0)))), (kt, .inl (cI, 6, .inl (upd (upd (upd (upd (upd ft 5 (ft 4)) 4 (ft 3)) 3 (ft 2)) 2 (ft 1)) 1 (ft 0)))), (kb, .inl (cI, 6, .inl (upd (upd (upd (upd (upd fb 5 (fb 4)) 4 (fb 3)) 3 (fb 2)) 2 (fb 1)) 1 (fb 0))))]) S G 3 0 rfl rfl (by unfold vp_in; decide) dX1_put_55 rfl (fun H locs G => ?_)
  refine lv_iinc (v := 0) (lv' := [(4, .int 0), (0, .ref k), (1, .int q), (2, .int tr), (3, .int sb)]) hx hb dX1_put_56 hl (k := 0) rfl (by decide) (by decide) rfl (fun ls hl => ?_)
  refine lv_goto (tgt := 3) hx hb dX1_put_59 (by decide) ?_
  refine lv_iload hx hb dX1_put_3 (lv_at hl 0 rfl) ?_
  refine lv_if_le (tgt := 62) hx hb dX1_put_5 (by decide) (fun c_6 => ?_) (fun c_6 => absurd c_6 (by decide))
  refine lv_aload_n hx hb dX1_put_62 rfl (lv_at hl 1 rfl) ?_
  refine k_get (v := .ref km) S G 0 rfl rfl hiX1 0 (by decide) hf9 rfl dX1_put_63 ?_
  refine lv_iconst (v := 0) hx hb dX1_put_66 (by decide) ?_
  refine lv_iload_n hx hb dX1_put_67 rfl (lv_at hl 2 rfl) ?_
  refine k_iast (ws1 := [(k, .inr (1, [.ref km, .ref kt, .ref kb, .int cn])), (km, .inl (cI, 6, .inl (upd (upd (upd (upd (upd (upd fm 5 (fm 4)) 4 (fm 3)) 3 (fm 2)) 2 (fm 1)) 1 (fm 0)) 0 q))), (kt, .inl (cI, 6, .inl (upd (upd (upd (upd (upd ft 5 (ft 4)) 4 (ft 3)) 3 (ft 2)) 2 (ft 1)) 1 (ft 0)))), (kb, .inl (cI, 6, .inl (upd (upd (upd (upd (upd fb 5 (fb 4)) 4 (fb 3)) 3 (fb 2)) 2 (fb 1)) 1 (fb 0))))]) S G 1 0 rfl rfl (by unfold vp_in; decide) dX1_put_68 rfl (fun H locs G => ?_)
  refine lv_aload_n hx hb dX1_put_69 rfl (lv_at hl 1 rfl) ?_
  refine k_get (v := .ref kt) S G 0 rfl rfl hiX1 1 (by decide) hf15 rfl dX1_put_70 ?_
  refine lv_iconst (v := 0) hx hb dX1_put_73 (by decide) ?_
  refine lv_iload_n hx hb dX1_put_74 rfl (lv_at hl 3 rfl) ?_
  refine k_iast (ws1 := [(k, .inr (1, [.ref km, .ref kt, .ref kb, .int cn])), (km, .inl (cI, 6, .inl (upd (upd (upd (upd (upd (upd fm 5 (fm 4)) 4 (fm 3)) 3 (fm 2)) 2 (fm 1)) 1 (fm 0)) 0 q))), (kt, .inl (cI, 6, .inl (upd (upd (upd (upd (upd (upd ft 5 (ft 4)) 4 (ft 3)) 3 (ft 2)) 2 (ft 1)) 1 (ft 0)) 0 tr))), (kb, .inl (cI, 6, .inl (upd (upd (upd (upd (upd fb 5 (fb 4)) 4 (fb 3)) 3 (fb 2)) 2 (fb 1)) 1 (fb 0))))]) S G 2 0 rfl rfl (by unfold vp_in; decide) dX1_put_75 rfl (fun H locs G => ?_)
  refine lv_aload_n hx hb dX1_put_76 rfl (lv_at hl 1 rfl) ?_
  refine k_get (v := .ref kb) S G 0 rfl rfl hiX1 2 (by decide) hf18 rfl dX1_put_77 ?_
  refine lv_iconst (v := 0) hx hb dX1_put_80 (by decide) ?_
  refine lv_iload_n hx hb dX1_put_81 rfl (lv_at hl 4 rfl) ?_
  refine k_iast (ws1 := [(k, .inr (1, [.ref km, .ref kt, .ref kb, .int cn])), (km, .inl (cI, 6, .inl (upd (upd (upd (upd (upd (upd fm 5 (fm 4)) 4 (fm 3)) 3 (fm 2)) 2 (fm 1)) 1 (fm 0)) 0 q))), (kt, .inl (cI, 6, .inl (upd (upd (upd (upd (upd (upd ft 5 (ft 4)) 4 (ft 3)) 3 (ft 2)) 2 (ft 1)) 1 (ft 0)) 0 tr))), (kb, .inl (cI, 6, .inl (upd (upd (upd (upd (upd (upd fb 5 (fb 4)) 4 (fb 3)) 3 (fb 2)) 2 (fb 1)) 1 (fb 0)) 0 sb)))]) S G 3 0 rfl rfl (by unfold vp_in; decide) dX1_put_82 rfl (fun H locs G => ?_)
  refine lv_aload_n hx hb dX1_put_83 rfl (lv_at hl 1 rfl) ?_
  refine lv_aload_n hx hb dX1_put_84 rfl (lv_at hl 1 rfl) ?_
  refine k_get (v := .int cn) S G 0 rfl rfl hiX1 3 (by decide) hf21 rfl dX1_put_85 ?_
  refine lv_iconst (v := 1) hx hb dX1_put_88 (by decide) ?_
  refine lv_iadd hx hb dX1_put_89 ?_
  refine lv_bipush (v := 6) hx hb dX1_put_90 (by decide) ?_
  refine k_mmin S hl.1 hmL hmS hmI hmC (Nat.le_of_ble_eq_true rfl) (Nat.le_of_ble_eq_true rfl) ⟨Nat.zero_le _, Nat.zero_le _⟩ dX1_put_92 ?_
  refine k_put (ws1 := [(k, .inr (1, [.ref km, .ref kt, .ref kb, .int (if 6 < (cn + 1) then 6 else (cn + 1))])), (km, .inl (cI, 6, .inl (upd (upd (upd (upd (upd (upd fm 5 (fm 4)) 4 (fm 3)) 3 (fm 2)) 2 (fm 1)) 1 (fm 0)) 0 q))), (kt, .inl (cI, 6, .inl (upd (upd (upd (upd (upd (upd ft 5 (ft 4)) 4 (ft 3)) 3 (ft 2)) 2 (ft 1)) 1 (ft 0)) 0 tr))), (kb, .inl (cI, 6, .inl (upd (upd (upd (upd (upd (upd fb 5 (fb 4)) 4 (fb 3)) 3 (fb 2)) 2 (fb 1)) 1 (fb 0)) 0 sb)))]) S G 0 rfl rfl hiX1 tyX1 tyX1_ok nmX1 3 (by decide) hf21 rfl rfl rfl (Nat.le_of_ble_eq_true rfl) dX1_put_95 rfl (fun H locs G => ?_)
  have G := Gd.arr (ws1 := [(k, .inr (1, [.ref km, .ref kt, .ref kb, .int (if 6 < (cn + 1) then 6 else (cn + 1))])), (km, .inl (cI, 6, .inl (shf q fm))), (kt, .inl (cI, 6, .inl (upd (upd (upd (upd (upd (upd ft 5 (ft 4)) 4 (ft 3)) 3 (ft 2)) 2 (ft 1)) 1 (ft 0)) 0 tr))), (kb, .inl (cI, 6, .inl (upd (upd (upd (upd (upd (upd fb 5 (fb 4)) 4 (fb 3)) 3 (fb 2)) 2 (fb 1)) 1 (fb 0)) 0 sb)))]) G 1 (shf q fm) rfl (fun i hi => by rcases (show i = 0 ∨ i = 1 ∨ i = 2 ∨ i = 3 ∨ i = 4 ∨ i = 5 by omega) with rfl | rfl | rfl | rfl | rfl | rfl <;> rfl) rfl
  have G := Gd.arr (ws1 := [(k, .inr (1, [.ref km, .ref kt, .ref kb, .int (if 6 < (cn + 1) then 6 else (cn + 1))])), (km, .inl (cI, 6, .inl (shf q fm))), (kt, .inl (cI, 6, .inl (shf tr ft))), (kb, .inl (cI, 6, .inl (upd (upd (upd (upd (upd (upd fb 5 (fb 4)) 4 (fb 3)) 3 (fb 2)) 2 (fb 1)) 1 (fb 0)) 0 sb)))]) G 2 (shf tr ft) rfl (fun i hi => by rcases (show i = 0 ∨ i = 1 ∨ i = 2 ∨ i = 3 ∨ i = 4 ∨ i = 5 by omega) with rfl | rfl | rfl | rfl | rfl | rfl <;> rfl) rfl
  have G := Gd.arr (ws1 := [(k, .inr (1, [.ref km, .ref kt, .ref kb, .int (if 6 < (cn + 1) then 6 else (cn + 1))])), (km, .inl (cI, 6, .inl (shf q fm))), (kt, .inl (cI, 6, .inl (shf tr ft))), (kb, .inl (cI, 6, .inl (shf sb fb)))]) G 3 (shf sb fb) rfl (fun i hi => by rcases (show i = 0 ∨ i = 1 ∨ i = 2 ∨ i = 3 ∨ i = 4 ∨ i = 5 by omega) with rfl | rfl | rfl | rfl | rfl | rfl <;> rfl) rfl
  exact k_vret S G hr hlk dX1_put_98 rfl
set_option maxHeartbeats 4000000 in
set_option maxRecDepth 100000 in
theorem c_X1_copyFrom (l : Launch) (D : va_G) (cI cS : ClassId) (k : Nat) (km : Nat) (kt : Nat) (kb : Nat) (cn : Int32) (fm : Nat → Int32) (ft : Nat → Int32) (fb : Nat → Int32) (o : Nat) (om : Nat) (ot : Nat) (ob : Nat) (cn2 : Int32) (fm2 : Nat → Int32) (ft2 : Nat → Int32) (fb2 : Nat → Int32) : Ct l yX1_copyFrom wsX1_copyFrom ({ frames := 0, cells := 0, slots := 0, locals := 0 }) D (tyL cI cS) [.ref k, .ref o] [(k, .inr (1, [.ref km, .ref kt, .ref kb, .int cn])), (km, .inl (cI, 6, .inl fm)), (kt, .inl (cI, 6, .inl ft)), (kb, .inl (cI, 6, .inl fb)), (o, .inr (1, [.ref om, .ref ot, .ref ob, .int cn2])), (om, .inl (cI, 6, .inl fm2)), (ot, .inl (cI, 6, .inl ft2)), (ob, .inl (cI, 6, .inl fb2))] none [(k, .inr (1, [.ref km, .ref kt, .ref kb, .int cn2])), (km, .inl (cI, 6, .inl fm2)), (kt, .inl (cI, 6, .inl ft2)), (kb, .inl (cI, 6, .inl fb2)), (o, .inr (1, [.ref om, .ref ot, .ref ob, .int cn2])), (om, .inl (cI, 6, .inl fm2)), (ot, .inl (cI, 6, .inl ft2)), (ob, .inl (cI, 6, .inl fb2))] := by
  refine Ct.of (cc := cX1_copyFrom) (maxL := 3) (ret := none) (by decide) rfl (Nat.le_of_ble_eq_true rfl) ?_
  intro p ev s m args below meth c A ls S hr hlk G hl
  have hx := S.1
  have hb := S.2.1
  have hown : s.vm.findClass RX1 = some m.cls := S.2.2.2.1
  have hts := S.2.2.2.2
  have hl : lv_has ls 3 [(0, .ref k), (1, .ref o)] := hl
  have hiX1 : ∀ w ∈ wsX10, w ∈ wsX1_copyFrom := by decide +kernel
  have hf9 := hts (.fieldLink RX1 9 "StrikingWork$Strikes" "minutes" "[I") (by decide +kernel)
  have hf15 := hts (.fieldLink RX1 15 "StrikingWork$Strikes" "trains" "[I") (by decide +kernel)
  have hf18 := hts (.fieldLink RX1 18 "StrikingWork$Strikes" "blows" "[I") (by decide +kernel)
  have hf21 := hts (.fieldLink RX1 21 "StrikingWork$Strikes" "count" "I") (by decide +kernel)
  refine lv_iconst (v := 0) hx hb dX1_copyFrom_0 (by decide) ?_
  refine lv_istore_n (lv' := [(2, .int 0), (0, .ref k), (1, .ref o)]) hx hb dX1_copyFrom_1 rfl hl (by decide) rfl (fun ls hl => ?_)
  refine lv_iload_n hx hb dX1_copyFrom_2 rfl (lv_at hl 0 rfl) ?_
  refine lv_bipush (v := 6) hx hb dX1_copyFrom_3 (by decide) ?_
  refine lv_icmp_ge (tgt := 50) hx hb dX1_copyFrom_5 (by decide) (fun c_1 => absurd c_1 (by decide)) (fun c_1 => ?_)
  refine lv_aload_n hx hb dX1_copyFrom_8 rfl (lv_at hl 1 rfl) ?_
  refine k_get (v := .ref km) S G 0 rfl rfl hiX1 0 (by decide) hf9 rfl dX1_copyFrom_9 ?_
  refine lv_iload_n hx hb dX1_copyFrom_12 rfl (lv_at hl 0 rfl) ?_
  refine lv_aload_n hx hb dX1_copyFrom_13 rfl (lv_at hl 2 rfl) ?_
  refine k_get (v := .ref om) S G 4 rfl rfl hiX1 0 (by decide) hf9 rfl dX1_copyFrom_14 ?_
  refine lv_iload_n hx hb dX1_copyFrom_17 rfl (lv_at hl 0 rfl) ?_
  refine k_iald (x := (fm2 0)) S G 5 0 rfl rfl (by unfold vp_in; decide) rfl dX1_copyFrom_18 ?_
  refine k_iast (ws1 := [(k, .inr (1, [.ref km, .ref kt, .ref kb, .int cn])), (km, .inl (cI, 6, .inl (upd fm 0 (fm2 0)))), (kt, .inl (cI, 6, .inl ft)), (kb, .inl (cI, 6, .inl fb)), (o, .inr (1, [.ref om, .ref ot, .ref ob, .int cn2])), (om, .inl (cI, 6, .inl fm2)), (ot, .inl (cI, 6, .inl ft2)), (ob, .inl (cI, 6, .inl fb2))]) S G 1 0 rfl rfl (by unfold vp_in; decide) dX1_copyFrom_19 rfl (fun H locs G => ?_)
  refine lv_aload_n hx hb dX1_copyFrom_20 rfl (lv_at hl 1 rfl) ?_
  refine k_get (v := .ref kt) S G 0 rfl rfl hiX1 1 (by decide) hf15 rfl dX1_copyFrom_21 ?_
  refine lv_iload_n hx hb dX1_copyFrom_24 rfl (lv_at hl 0 rfl) ?_
  refine lv_aload_n hx hb dX1_copyFrom_25 rfl (lv_at hl 2 rfl) ?_
  refine k_get (v := .ref ot) S G 4 rfl rfl hiX1 1 (by decide) hf15 rfl dX1_copyFrom_26 ?_
  refine lv_iload_n hx hb dX1_copyFrom_29 rfl (lv_at hl 0 rfl) ?_
  refine k_iald (x := (ft2 0)) S G 6 0 rfl rfl (by unfold vp_in; decide) rfl dX1_copyFrom_30 ?_
  refine k_iast (ws1 := [(k, .inr (1, [.ref km, .ref kt, .ref kb, .int cn])), (km, .inl (cI, 6, .inl (upd fm 0 (fm2 0)))), (kt, .inl (cI, 6, .inl (upd ft 0 (ft2 0)))), (kb, .inl (cI, 6, .inl fb)), (o, .inr (1, [.ref om, .ref ot, .ref ob, .int cn2])), (om, .inl (cI, 6, .inl fm2)), (ot, .inl (cI, 6, .inl ft2)), (ob, .inl (cI, 6, .inl fb2))]) S G 2 0 rfl rfl (by unfold vp_in; decide) dX1_copyFrom_31 rfl (fun H locs G => ?_)
  refine lv_aload_n hx hb dX1_copyFrom_32 rfl (lv_at hl 1 rfl) ?_
  refine k_get (v := .ref kb) S G 0 rfl rfl hiX1 2 (by decide) hf18 rfl dX1_copyFrom_33 ?_
  refine lv_iload_n hx hb dX1_copyFrom_36 rfl (lv_at hl 0 rfl) ?_
  refine lv_aload_n hx hb dX1_copyFrom_37 rfl (lv_at hl 2 rfl) ?_
  refine k_get (v := .ref ob) S G 4 rfl rfl hiX1 2 (by decide) hf18 rfl dX1_copyFrom_38 ?_
  refine lv_iload_n hx hb dX1_copyFrom_41 rfl (lv_at hl 0 rfl) ?_
  refine k_iald (x := (fb2 0)) S G 7 0 rfl rfl (by unfold vp_in; decide) rfl dX1_copyFrom_42 ?_
  refine k_iast (ws1 := [(k, .inr (1, [.ref km, .ref kt, .ref kb, .int cn])), (km, .inl (cI, 6, .inl (upd fm 0 (fm2 0)))), (kt, .inl (cI, 6, .inl (upd ft 0 (ft2 0)))), (kb, .inl (cI, 6, .inl (upd fb 0 (fb2 0)))), (o, .inr (1, [.ref om, .ref ot, .ref ob, .int cn2])), (om, .inl (cI, 6, .inl fm2)), (ot, .inl (cI, 6, .inl ft2)), (ob, .inl (cI, 6, .inl fb2))]) S G 3 0 rfl rfl (by unfold vp_in; decide) dX1_copyFrom_43 rfl (fun H locs G => ?_)
  refine lv_iinc (v := 1) (lv' := [(2, .int 1), (0, .ref k), (1, .ref o)]) hx hb dX1_copyFrom_44 hl (k := 0) rfl (by decide) (by decide) rfl (fun ls hl => ?_)
  refine lv_goto (tgt := 2) hx hb dX1_copyFrom_47 (by decide) ?_
  refine lv_iload_n hx hb dX1_copyFrom_2 rfl (lv_at hl 0 rfl) ?_
  refine lv_bipush (v := 6) hx hb dX1_copyFrom_3 (by decide) ?_
  refine lv_icmp_ge (tgt := 50) hx hb dX1_copyFrom_5 (by decide) (fun c_2 => absurd c_2 (by decide)) (fun c_2 => ?_)
  refine lv_aload_n hx hb dX1_copyFrom_8 rfl (lv_at hl 1 rfl) ?_
  refine k_get (v := .ref km) S G 0 rfl rfl hiX1 0 (by decide) hf9 rfl dX1_copyFrom_9 ?_
  refine lv_iload_n hx hb dX1_copyFrom_12 rfl (lv_at hl 0 rfl) ?_
  refine lv_aload_n hx hb dX1_copyFrom_13 rfl (lv_at hl 2 rfl) ?_
  refine k_get (v := .ref om) S G 4 rfl rfl hiX1 0 (by decide) hf9 rfl dX1_copyFrom_14 ?_
  refine lv_iload_n hx hb dX1_copyFrom_17 rfl (lv_at hl 0 rfl) ?_
  refine k_iald (x := (fm2 1)) S G 5 0 rfl rfl (by unfold vp_in; decide) rfl dX1_copyFrom_18 ?_
  refine k_iast (ws1 := [(k, .inr (1, [.ref km, .ref kt, .ref kb, .int cn])), (km, .inl (cI, 6, .inl (upd (upd fm 0 (fm2 0)) 1 (fm2 1)))), (kt, .inl (cI, 6, .inl (upd ft 0 (ft2 0)))), (kb, .inl (cI, 6, .inl (upd fb 0 (fb2 0)))), (o, .inr (1, [.ref om, .ref ot, .ref ob, .int cn2])), (om, .inl (cI, 6, .inl fm2)), (ot, .inl (cI, 6, .inl ft2)), (ob, .inl (cI, 6, .inl fb2))]) S G 1 0 rfl rfl (by unfold vp_in; decide) dX1_copyFrom_19 rfl (fun H locs G => ?_)
  refine lv_aload_n hx hb dX1_copyFrom_20 rfl (lv_at hl 1 rfl) ?_
  refine k_get (v := .ref kt) S G 0 rfl rfl hiX1 1 (by decide) hf15 rfl dX1_copyFrom_21 ?_
  refine lv_iload_n hx hb dX1_copyFrom_24 rfl (lv_at hl 0 rfl) ?_
  refine lv_aload_n hx hb dX1_copyFrom_25 rfl (lv_at hl 2 rfl) ?_
  refine k_get (v := .ref ot) S G 4 rfl rfl hiX1 1 (by decide) hf15 rfl dX1_copyFrom_26 ?_
  refine lv_iload_n hx hb dX1_copyFrom_29 rfl (lv_at hl 0 rfl) ?_
  refine k_iald (x := (ft2 1)) S G 6 0 rfl rfl (by unfold vp_in; decide) rfl dX1_copyFrom_30 ?_
  refine k_iast (ws1 := [(k, .inr (1, [.ref km, .ref kt, .ref kb, .int cn])), (km, .inl (cI, 6, .inl (upd (upd fm 0 (fm2 0)) 1 (fm2 1)))), (kt, .inl (cI, 6, .inl (upd (upd ft 0 (ft2 0)) 1 (ft2 1)))), (kb, .inl (cI, 6, .inl (upd fb 0 (fb2 0)))), (o, .inr (1, [.ref om, .ref ot, .ref ob, .int cn2])), (om, .inl (cI, 6, .inl fm2)), (ot, .inl (cI, 6, .inl ft2)), (ob, .inl (cI, 6, .inl fb2))]) S G 2 0 rfl rfl (by unfold vp_in; decide) dX1_copyFrom_31 rfl (fun H locs G => ?_)
  refine lv_aload_n hx hb dX1_copyFrom_32 rfl (lv_at hl 1 rfl) ?_
  refine k_get (v := .ref kb) S G 0 rfl rfl hiX1 2 (by decide) hf18 rfl dX1_copyFrom_33 ?_
  refine lv_iload_n hx hb dX1_copyFrom_36 rfl (lv_at hl 0 rfl) ?_
  refine lv_aload_n hx hb dX1_copyFrom_37 rfl (lv_at hl 2 rfl) ?_
  refine k_get (v := .ref ob) S G 4 rfl rfl hiX1 2 (by decide) hf18 rfl dX1_copyFrom_38 ?_
  refine lv_iload_n hx hb dX1_copyFrom_41 rfl (lv_at hl 0 rfl) ?_
  refine k_iald (x := (fb2 1)) S G 7 0 rfl rfl (by unfold vp_in; decide) rfl dX1_copyFrom_42 ?_
  refine k_iast (ws1 := [(k, .inr (1, [.ref km, .ref kt, .ref kb, .int cn])), (km, .inl (cI, 6, .inl (upd (upd fm 0 (fm2 0)) 1 (fm2 1)))), (kt, .inl (cI, 6, .inl (upd (upd ft 0 (ft2 0)) 1 (ft2 1)))), (kb, .inl (cI, 6, .inl (upd (upd fb 0 (fb2 0)) 1 (fb2 1)))), (o, .inr (1, [.ref om, .ref ot, .ref ob, .int cn2])), (om, .inl (cI, 6, .inl fm2)), (ot, .inl (cI, 6, .inl ft2)), (ob, .inl (cI, 6, .inl fb2))]) S G 3 0 rfl rfl (by unfold vp_in; decide) dX1_copyFrom_43 rfl (fun H locs G => ?_)
  refine lv_iinc (v := 2) (lv' := [(2, .int 2), (0, .ref k), (1, .ref o)]) hx hb dX1_copyFrom_44 hl (k := 0) rfl (by decide) (by decide) rfl (fun ls hl => ?_)
  refine lv_goto (tgt := 2) hx hb dX1_copyFrom_47 (by decide) ?_
  refine lv_iload_n hx hb dX1_copyFrom_2 rfl (lv_at hl 0 rfl) ?_
  refine lv_bipush (v := 6) hx hb dX1_copyFrom_3 (by decide) ?_
  refine lv_icmp_ge (tgt := 50) hx hb dX1_copyFrom_5 (by decide) (fun c_3 => absurd c_3 (by decide)) (fun c_3 => ?_)
  refine lv_aload_n hx hb dX1_copyFrom_8 rfl (lv_at hl 1 rfl) ?_
  refine k_get (v := .ref km) S G 0 rfl rfl hiX1 0 (by decide) hf9 rfl dX1_copyFrom_9 ?_
  refine lv_iload_n hx hb dX1_copyFrom_12 rfl (lv_at hl 0 rfl) ?_
  refine lv_aload_n hx hb dX1_copyFrom_13 rfl (lv_at hl 2 rfl) ?_
  refine k_get (v := .ref om) S G 4 rfl rfl hiX1 0 (by decide) hf9 rfl dX1_copyFrom_14 ?_
  refine lv_iload_n hx hb dX1_copyFrom_17 rfl (lv_at hl 0 rfl) ?_
  refine k_iald (x := (fm2 2)) S G 5 0 rfl rfl (by unfold vp_in; decide) rfl dX1_copyFrom_18 ?_
  refine k_iast (ws1 := [(k, .inr (1, [.ref km, .ref kt, .ref kb, .int cn])), (km, .inl (cI, 6, .inl (upd (upd (upd fm 0 (fm2 0)) 1 (fm2 1)) 2 (fm2 2)))), (kt, .inl (cI, 6, .inl (upd (upd ft 0 (ft2 0)) 1 (ft2 1)))), (kb, .inl (cI, 6, .inl (upd (upd fb 0 (fb2 0)) 1 (fb2 1)))), (o, .inr (1, [.ref om, .ref ot, .ref ob, .int cn2])), (om, .inl (cI, 6, .inl fm2)), (ot, .inl (cI, 6, .inl ft2)), (ob, .inl (cI, 6, .inl fb2))]) S G 1 0 rfl rfl (by unfold vp_in; decide) dX1_copyFrom_19 rfl (fun H locs G => ?_)
  refine lv_aload_n hx hb dX1_copyFrom_20 rfl (lv_at hl 1 rfl) ?_
  refine k_get (v := .ref kt) S G 0 rfl rfl hiX1 1 (by decide) hf15 rfl dX1_copyFrom_21 ?_
  refine lv_iload_n hx hb dX1_copyFrom_24 rfl (lv_at hl 0 rfl) ?_
  refine lv_aload_n hx hb dX1_copyFrom_25 rfl (lv_at hl 2 rfl) ?_
  refine k_get (v := .ref ot) S G 4 rfl rfl hiX1 1 (by decide) hf15 rfl dX1_copyFrom_26 ?_
  refine lv_iload_n hx hb dX1_copyFrom_29 rfl (lv_at hl 0 rfl) ?_
  refine k_iald (x := (ft2 2)) S G 6 0 rfl rfl (by unfold vp_in; decide) rfl dX1_copyFrom_30 ?_
  refine k_iast (ws1 := [(k, .inr (1, [.ref km, .ref kt, .ref kb, .int cn])), (km, .inl (cI, 6, .inl (upd (upd (upd fm 0 (fm2 0)) 1 (fm2 1)) 2 (fm2 2)))), (kt, .inl (cI, 6, .inl (upd (upd (upd ft 0 (ft2 0)) 1 (ft2 1)) 2 (ft2 2)))), (kb, .inl (cI, 6, .inl (upd (upd fb 0 (fb2 0)) 1 (fb2 1)))), (o, .inr (1, [.ref om, .ref ot, .ref ob, .int cn2])), (om, .inl (cI, 6, .inl fm2)), (ot, .inl (cI, 6, .inl ft2)), (ob, .inl (cI, 6, .inl fb2))]) S G 2 0 rfl rfl (by unfold vp_in; decide) dX1_copyFrom_31 rfl (fun H locs G => ?_)
  refine lv_aload_n hx hb dX1_copyFrom_32 rfl (lv_at hl 1 rfl) ?_
  refine k_get (v := .ref kb) S G 0 rfl rfl hiX1 2 (by decide) hf18 rfl dX1_copyFrom_33 ?_
  refine lv_iload_n hx hb dX1_copyFrom_36 rfl (lv_at hl 0 rfl) ?_
  refine lv_aload_n hx hb dX1_copyFrom_37 rfl (lv_at hl 2 rfl) ?_
  refine k_get (v := .ref ob) S G 4 rfl rfl hiX1 2 (by decide) hf18 rfl dX1_copyFrom_38 ?_
  refine lv_iload_n hx hb dX1_copyFrom_41 rfl (lv_at hl 0 rfl) ?_
  refine k_iald (x := (fb2 2)) S G 7 0 rfl rfl (by unfold vp_in; decide) rfl dX1_copyFrom_42 ?_
  refine k_iast (ws1 := [(k, .inr (1, [.ref km, .ref kt, .ref kb, .int cn])), (km, .inl (cI, 6, .inl (upd (upd (upd fm 0 (fm2 0)) 1 (fm2 1)) 2 (fm2 2)))), (kt, .inl (cI, 6, .inl (upd (upd (upd ft 0 (ft2 0)) 1 (ft2 1)) 2 (ft2 2)))), (kb, .inl (cI, 6, .inl (upd (upd (upd fb 0 (fb2 0)) 1 (fb2 1)) 2 (fb2 2)))), (o, .inr (1, [.ref om, .ref ot, .ref ob, .int cn2])), (om, .inl (cI, 6, .inl fm2)), (ot, .inl (cI, 6, .inl ft2)), (ob, .inl (cI, 6, .inl fb2))]) S G 3 0 rfl rfl (by unfold vp_in; decide) dX1_copyFrom_43 rfl (fun H locs G => ?_)
  refine lv_iinc (v := 3) (lv' := [(2, .int 3), (0, .ref k), (1, .ref o)]) hx hb dX1_copyFrom_44 hl (k := 0) rfl (by decide) (by decide) rfl (fun ls hl => ?_)
  refine lv_goto (tgt := 2) hx hb dX1_copyFrom_47 (by decide) ?_
  refine lv_iload_n hx hb dX1_copyFrom_2 rfl (lv_at hl 0 rfl) ?_
  refine lv_bipush (v := 6) hx hb dX1_copyFrom_3 (by decide) ?_
  refine lv_icmp_ge (tgt := 50) hx hb dX1_copyFrom_5 (by decide) (fun c_4 => absurd c_4 (by decide)) (fun c_4 => ?_)
  refine lv_aload_n hx hb dX1_copyFrom_8 rfl (lv_at hl 1 rfl) ?_
  refine k_get (v := .ref km) S G 0 rfl rfl hiX1 0 (by decide) hf9 rfl dX1_copyFrom_9 ?_
  refine lv_iload_n hx hb dX1_copyFrom_12 rfl (lv_at hl 0 rfl) ?_
  refine lv_aload_n hx hb dX1_copyFrom_13 rfl (lv_at hl 2 rfl) ?_
  refine k_get (v := .ref om) S G 4 rfl rfl hiX1 0 (by decide) hf9 rfl dX1_copyFrom_14 ?_
  refine lv_iload_n hx hb dX1_copyFrom_17 rfl (lv_at hl 0 rfl) ?_
  refine k_iald (x := (fm2 3)) S G 5 0 rfl rfl (by unfold vp_in; decide) rfl dX1_copyFrom_18 ?_
  refine k_iast (ws1 := [(k, .inr (1, [.ref km, .ref kt, .ref kb, .int cn])), (km, .inl (cI, 6, .inl (upd (upd (upd (upd fm 0 (fm2 0)) 1 (fm2 1)) 2 (fm2 2)) 3 (fm2 3)))), (kt, .inl (cI, 6, .inl (upd (upd (upd ft 0 (ft2 0)) 1 (ft2 1)) 2 (ft2 2)))), (kb, .inl (cI, 6, .inl (upd (upd (upd fb 0 (fb2 0)) 1 (fb2 1)) 2 (fb2 2)))), (o, .inr (1, [.ref om, .ref ot, .ref ob, .int cn2])), (om, .inl (cI, 6, .inl fm2)), (ot, .inl (cI, 6, .inl ft2)), (ob, .inl (cI, 6, .inl fb2))]) S G 1 0 rfl rfl (by unfold vp_in; decide) dX1_copyFrom_19 rfl (fun H locs G => ?_)
  refine lv_aload_n hx hb dX1_copyFrom_20 rfl (lv_at hl 1 rfl) ?_
  refine k_get (v := .ref kt) S G 0 rfl rfl hiX1 1 (by decide) hf15 rfl dX1_copyFrom_21 ?_
  refine lv_iload_n hx hb dX1_copyFrom_24 rfl (lv_at hl 0 rfl) ?_
  refine lv_aload_n hx hb dX1_copyFrom_25 rfl (lv_at hl 2 rfl) ?_
  refine k_get (v := .ref ot) S G 4 rfl rfl hiX1 1 (by decide) hf15 rfl dX1_copyFrom_26 ?_
  refine lv_iload_n hx hb dX1_copyFrom_29 rfl (lv_at hl 0 rfl) ?_
  refine k_iald (x := (ft2 3)) S G 6 0 rfl rfl (by unfold vp_in; decide) rfl dX1_copyFrom_30 ?_
  refine k_iast (ws1 := [(k, .inr (1, [.ref km, .ref kt, .ref kb, .int cn])), (km, .inl (cI, 6, .inl (upd (upd (upd (upd fm 0 (fm2 0)) 1 (fm2 1)) 2 (fm2 2)) 3 (fm2 3)))), (kt, .inl (cI, 6, .inl (upd (upd (upd (upd ft 0 (ft2 0)) 1 (ft2 1)) 2 (ft2 2)) 3 (ft2 3)))), (kb, .inl (cI, 6, .inl (upd (upd (upd fb 0 (fb2 0)) 1 (fb2 1)) 2 (fb2 2)))), (o, .inr (1, [.ref om, .ref ot, .ref ob, .int cn2])), (om, .inl (cI, 6, .inl fm2)), (ot, .inl (cI, 6, .inl ft2)), (ob, .inl (cI, 6, .inl fb2))]) S G 2 0 rfl rfl (by unfold vp_in; decide) dX1_copyFrom_31 rfl (fun H locs G => ?_)
  refine lv_aload_n hx hb dX1_copyFrom_32 rfl (lv_at hl 1 rfl) ?_
  refine k_get (v := .ref kb) S G 0 rfl rfl hiX1 2 (by decide) hf18 rfl dX1_copyFrom_33 ?_
  refine lv_iload_n hx hb dX1_copyFrom_36 rfl (lv_at hl 0 rfl) ?_
  refine lv_aload_n hx hb dX1_copyFrom_37 rfl (lv_at hl 2 rfl) ?_
  refine k_get (v := .ref ob) S G 4 rfl rfl hiX1 2 (by decide) hf18 rfl dX1_copyFrom_38 ?_
  refine lv_iload_n hx hb dX1_copyFrom_41 rfl (lv_at hl 0 rfl) ?_
  refine k_iald (x := (fb2 3)) S G 7 0 rfl rfl (by unfold vp_in; decide) rfl dX1_copyFrom_42 ?_
  refine k_iast (ws1 := [(k, .inr (1, [.ref km, .ref kt, .ref kb, .int cn])), (km, .inl (cI, 6, .inl (upd (upd (upd (upd fm 0 (fm2 0)) 1 (fm2 1)) 2 (fm2 2)) 3 (fm2 3)))), (kt, .inl (cI, 6, .inl (upd (upd (upd (upd ft 0 (ft2 0)) 1 (ft2 1)) 2 (ft2 2)) 3 (ft2 3)))), (kb, .inl (cI, 6, .inl (upd (upd (upd (upd fb 0 (fb2 0)) 1 (fb2 1)) 2 (fb2 2)) 3 (fb2 3)))), (o, .inr (1, [.ref om, .ref ot, .ref ob, .int cn2])), (om, .inl (cI, 6, .inl fm2)), (ot, .inl (cI, 6, .inl ft2)), (ob, .inl (cI, 6, .inl fb2))]) S G 3 0 rfl rfl (by unfold vp_in; decide) dX1_copyFrom_43 rfl (fun H locs G => ?_)
  refine lv_iinc (v := 4) (lv' := [(2, .int 4), (0, .ref k), (1, .ref o)]) hx hb dX1_copyFrom_44 hl (k := 0) rfl (by decide) (by decide) rfl (fun ls hl => ?_)
  refine lv_goto (tgt := 2) hx hb dX1_copyFrom_47 (by decide) ?_
  refine lv_iload_n hx hb dX1_copyFrom_2 rfl (lv_at hl 0 rfl) ?_
  refine lv_bipush (v := 6) hx hb dX1_copyFrom_3 (by decide) ?_
  refine lv_icmp_ge (tgt := 50) hx hb dX1_copyFrom_5 (by decide) (fun c_5 => absurd c_5 (by decide)) (fun c_5 => ?_)
  refine lv_aload_n hx hb dX1_copyFrom_8 rfl (lv_at hl 1 rfl) ?_
  refine k_get (v := .ref km) S G 0 rfl rfl hiX1 0 (by decide) hf9 rfl dX1_copyFrom_9 ?_
  refine lv_iload_n hx hb dX1_copyFrom_12 rfl (lv_at hl 0 rfl) ?_
  refine lv_aload_n hx hb dX1_copyFrom_13 rfl (lv_at hl 2 rfl) ?_
  refine k_get (v := .ref om) S G 4 rfl rfl hiX1 0 (by decide) hf9 rfl dX1_copyFrom_14 ?_
  refine lv_iload_n hx hb dX1_copyFrom_17 rfl (lv_at hl 0 rfl) ?_
  refine k_iald (x := (fm2 4)) S G 5 0 rfl rfl (by unfold vp_in; decide) rfl dX1_copyFrom_18 ?_
  refine k_iast (ws1 := [(k, .inr (1, [.ref km, .ref kt, .ref kb, .int cn])), (km, .inl (cI, 6, .inl (upd (upd (upd (upd (upd fm 0 (fm2 0)) 1 (fm2 1)) 2 (fm2 2)) 3 (fm2 3)) 4 (fm2 4)))), (kt, .inl (cI, 6, .inl (upd (upd (upd (upd ft 0 (ft2 0)) 1 (ft2 1)) 2 (ft2 2)) 3 (ft2 3)))), (kb, .inl (cI, 6, .inl (upd (upd (upd (upd fb 0 (fb2 0)) 1 (fb2 1)) 2 (fb2 2)) 3 (fb2 3)))), (o, .inr (1, [.ref om, .ref ot, .ref ob, .int cn2])), (om, .inl (cI, 6, .inl fm2)), (ot, .inl (cI, 6, .inl ft2)), (ob, .inl (cI, 6, .inl fb2))]) S G 1 0 rfl rfl (by unfold vp_in; decide) dX1_copyFrom_19 rfl (fun H locs G => ?_)
  refine lv_aload_n hx hb dX1_copyFrom_20 rfl (lv_at hl 1 rfl) ?_
  refine k_get (v := .ref kt) S G 0 rfl rfl hiX1 1 (by decide) hf15 rfl dX1_copyFrom_21 ?_
  refine lv_iload_n hx hb dX1_copyFrom_24 rfl (lv_at hl 0 rfl) ?_
  refine lv_aload_n hx hb dX1_copyFrom_25 rfl (lv_at hl 2 rfl) ?_
  refine k_get (v := .ref ot) S G 4 rfl rfl hiX1 1 (by decide) hf15 rfl dX1_copyFrom_26 ?_
  refine lv_iload_n hx hb dX1_copyFrom_29 rfl (lv_at hl 0 rfl) ?_
  refine k_iald (x := (ft2 4)) S G 6 0 rfl rfl (by unfold vp_in; decide) rfl dX1_copyFrom_30 ?_
  refine k_iast (ws1 := [(k, .inr (1, [.ref km, .ref kt, .ref kb, .int cn])), (km, .inl (cI, 6, .inl (upd (upd (upd (upd (upd fm 0 (fm2 0)) 1 (fm2 1)) 2 (fm2 2)) 3 (fm2 3)) 4 (fm2 4)))), (kt, .inl (cI, 6, .inl (upd (upd (upd (upd (upd ft 0 (ft2 0)) 1 (ft2 1)) 2 (ft2 2)) 3 (ft2 3)) 4 (ft2 4)))), (kb, .inl (cI, 6, .inl (upd (upd (upd (upd fb 0 (fb2 0)) 1 (fb2 1)) 2 (fb2 2)) 3 (fb2 3)))), (o, .inr (1, [.ref om, .ref ot, .ref ob, .int cn2])), (om, .inl (cI, 6, .inl fm2)), (ot, .inl (cI, 6, .inl ft2)), (ob, .inl (cI, 6, .inl fb2))]) S G 2 0 rfl rfl (by unfold vp_in; decide) dX1_copyFrom_31 rfl (fun H locs G => ?_)
  refine lv_aload_n hx hb dX1_copyFrom_32 rfl (lv_at hl 1 rfl) ?_
  refine k_get (v := .ref kb) S G 0 rfl rfl hiX1 2 (by decide) hf18 rfl dX1_copyFrom_33 ?_
  refine lv_iload_n hx hb dX1_copyFrom_36 rfl (lv_at hl 0 rfl) ?_
  refine lv_aload_n hx hb dX1_copyFrom_37 rfl (lv_at hl 2 rfl) ?_
  refine k_get (v := .ref ob) S G 4 rfl rfl hiX1 2 (by decide) hf18 rfl dX1_copyFrom_38 ?_
  refine lv_iload_n hx hb dX1_copyFrom_41 rfl (lv_at hl 0 rfl) ?_
  refine k_iald (x := (fb2 4)) S G 7 0 rfl rfl (by unfold vp_in; decide) rfl dX1_copyFrom_42 ?_
  refine k_iast (ws1 := [(k, .inr (1, [.ref km, .ref kt, .ref kb, .int cn])), (km, .inl (cI, 6, .inl (upd (upd (upd (upd (upd fm 0 (fm2 0)) 1 (fm2 1)) 2 (fm2 2)) 3 (fm2 3)) 4 (fm2 4)))), (kt, .inl (cI, 6, .inl (upd (upd (upd (upd (upd ft 0 (ft2 0)) 1 (ft2 1)) 2 (ft2 2)) 3 (ft2 3)) 4 (ft2 4)))), (kb, .inl (cI, 6, .inl (upd (upd (upd (upd (upd fb 0 (fb2 0)) 1 (fb2 1)) 2 (fb2 2)) 3 (fb2 3)) 4 (fb2 4)))), (o, .inr (1, [.ref om, .ref ot, .ref ob, .int cn2])), (om, .inl (cI, 6, .inl fm2)), (ot, .inl (cI, 6, .inl ft2)), (ob, .inl (cI, 6, .inl fb2))]) S G 3 0 rfl rfl (by unfold vp_in; decide) dX1_copyFrom_43 rfl (fun H locs G => ?_)
  refine lv_iinc (v := 5) (lv' := [(2, .int 5), (0, .ref k), (1, .ref o)]) hx hb dX1_copyFrom_44 hl (k := 0) rfl (by decide) (by decide) rfl (fun ls hl => ?_)
  refine lv_goto (tgt := 2) hx hb dX1_copyFrom_47 (by decide) ?_
  refine lv_iload_n hx hb dX1_copyFrom_2 rfl (lv_at hl 0 rfl) ?_
  refine lv_bipush (v := 6) hx hb dX1_copyFrom_3 (by decide) ?_
  refine lv_icmp_ge (tgt := 50) hx hb dX1_copyFrom_5 (by decide) (fun c_6 => absurd c_6 (by decide)) (fun c_6 => ?_)
  refine lv_aload_n hx hb dX1_copyFrom_8 rfl (lv_at hl 1 rfl) ?_
  refine k_get (v := .ref km) S G 0 rfl rfl hiX1 0 (by decide) hf9 rfl dX1_copyFrom_9 ?_
  refine lv_iload_n hx hb dX1_copyFrom_12 rfl (lv_at hl 0 rfl) ?_
  refine lv_aload_n hx hb dX1_copyFrom_13 rfl (lv_at hl 2 rfl) ?_
  refine k_get (v := .ref om) S G 4 rfl rfl hiX1 0 (by decide) hf9 rfl dX1_copyFrom_14 ?_
  refine lv_iload_n hx hb dX1_copyFrom_17 rfl (lv_at hl 0 rfl) ?_
  refine k_iald (x := (fm2 5)) S G 5 0 rfl rfl (by unfold vp_in; decide) rfl dX1_copyFrom_18 ?_
  refine k_iast (ws1 := [(k, .inr (1, [.ref km, .ref kt, .ref kb, .int cn])), (km, .inl (cI, 6, .inl (upd (upd (upd (upd (upd (upd fm 0 (fm2 0)) 1 (fm2 1)) 2 (fm2 2)) 3 (fm2 3)) 4 (fm2 4)) 5 (fm2 5)))), (kt, .inl (cI, 6, .inl (upd (upd (upd (upd (upd ft 0 (ft2 0)) 1 (ft2 1)) 2 (ft2 2)) 3 (ft2 3)) 4 (ft2 4)))), (kb, .inl (cI, 6, .inl (upd (upd (upd (upd (upd fb 0 (fb2 0)) 1 (fb2 1)) 2 (fb2 2)) 3 (fb2 3)) 4 (fb2 4)))), (o, .inr (1, [.ref om, .ref ot, .ref ob, .int cn2])), (om, .inl (cI, 6, .inl fm2)), (ot, .inl (cI, 6, .inl ft2)), (ob, .inl (cI, 6, .inl fb2))]) S G 1 0 rfl rfl (by unfold vp_in; decide) dX1_copyFrom_19 rfl (fun H locs G => ?_)
  refine lv_aload_n hx hb dX1_copyFrom_20 rfl (lv_at hl 1 rfl) ?_
  refine k_get (v := .ref kt) S G 0 rfl rfl hiX1 1 (by decide) hf15 rfl dX1_copyFrom_21 ?_
  refine lv_iload_n hx hb dX1_copyFrom_24 rfl (lv_at hl 0 rfl) ?_
  refine lv_aload_n hx hb dX1_copyFrom_25 rfl (lv_at hl 2 rfl) ?_
  refine k_get (v := .ref ot) S G 4 rfl rfl hiX1 1 (by decide) hf15 rfl dX1_copyFrom_26 ?_
  refine lv_iload_n hx hb dX1_copyFrom_29 rfl (lv_at hl 0 rfl) ?_
  refine k_iald (x := (ft2 5)) S G 6 0 rfl rfl (by unfold vp_in; decide) rfl dX1_copyFrom_30 ?_
  refine k_iast (ws1 := [(k, .inr (1, [.ref km, .ref kt, .ref kb, .int cn])), (km, .inl (cI, 6, .inl (upd (upd (upd (upd (upd (upd fm 0 (fm2 0)) 1 (fm2 1)) 2 (fm2 2)) 3 (fm2 3)) 4 (fm2 4)) 5 (fm2 5)))), (kt, .inl (cI, 6, .inl (upd (upd (upd (upd (upd (upd ft 0 (ft2 0)) 1 (ft2 1)) 2 (ft2 2)) 3 (ft2 3)) 4 (ft2 4)) 5 (ft2 5)))), (kb, .inl (cI, 6, .inl (upd (upd (upd (upd (upd fb 0 (fb2 0)) 1 (fb2 1)) 2 (fb2 2)) 3 (fb2 3)) 4 (fb2 4)))), (o, .inr (1, [.ref om, .ref ot, .ref ob, .int cn2])), (om, .inl (cI, 6, .inl fm2)), (ot, .inl (cI, 6, .inl ft2)), (ob, .inl (cI, 6, .inl fb2))]) S G 2 0 rfl rfl (by unfold vp_in; decide) dX1_copyFrom_31 rfl (fun H locs G => ?_)
  refine lv_aload_n hx hb dX1_copyFrom_32 rfl (lv_at hl 1 rfl) ?_
  refine k_get (v := .ref kb) S G 0 rfl rfl hiX1 2 (by decide) hf18 rfl dX1_copyFrom_33 ?_
  refine lv_iload_n hx hb dX1_copyFrom_36 rfl (lv_at hl 0 rfl) ?_
  refine lv_aload_n hx hb dX1_copyFrom_37 rfl (lv_at hl 2 rfl) ?_
  refine k_get (v := .ref ob) S G 4 rfl rfl hiX1 2 (by decide) hf18 rfl dX1_copyFrom_38 ?_
  refine lv_iload_n hx hb dX1_copyFrom_41 rfl (lv_at hl 0 rfl) ?_
  refine k_iald (x := (fb2 5)) S G 7 0 rfl rfl (by unfold vp_in; decide) rfl dX1_copyFrom_42 ?_
  refine k_iast (ws1 := [(k, .inr (1, [.ref km, .ref kt, .ref kb, .int cn])), (km, .inl (cI, 6, .inl (upd (upd (upd (upd (upd (upd fm 0 (fm2 0)) 1 (fm2 1)) 2 (fm2 2)) 3 (fm2 3)) 4 (fm2 4)) 5 (fm2 5)))), (kt, .inl (cI, 6, .inl (upd (upd (upd (upd (upd (upd ft 0 (ft2 0)) 1 (ft2 1)) 2 (ft2 2)) 3 (ft2 3)) 4 (ft2 4)) 5 (ft2 5)))), (kb, .inl (cI, 6, .inl (upd (upd (upd (upd (upd (upd fb 0 (fb2 0)) 1 (fb2 1)) 2 (fb2 2)) 3 (fb2 3)) 4 (fb2 4)) 5 (fb2 5)))), (o, .inr (1, [.ref om, .ref ot, .ref ob, .int cn2])), (om, .inl (cI, 6, .inl fm2)), (ot, .inl (cI, 6, .inl ft2)), (ob, .inl (cI, 6, .inl fb2))]) S G 3 0 rfl rfl (by unfold vp_in; decide) dX1_copyFrom_43 rfl (fun H locs G => ?_)
  refine lv_iinc (v := 6) (lv' := [(2, .int 6), (0, .ref k), (1, .ref o)]) hx hb dX1_copyFrom_44 hl (k := 0) rfl (by decide) (by decide) rfl (fun ls hl => ?_)
  refine lv_goto (tgt := 2) hx hb dX1_copyFrom_47 (by decide) ?_
  refine lv_iload_n hx hb dX1_copyFrom_2 rfl (lv_at hl 0 rfl) ?_
  refine lv_bipush (v := 6) hx hb dX1_copyFrom_3 (by decide) ?_
  refine lv_icmp_ge (tgt := 50) hx hb dX1_copyFrom_5 (by decide) (fun c_7 => ?_) (fun c_7 => absurd c_7 (by decide))
  refine lv_aload_n hx hb dX1_copyFrom_50 rfl (lv_at hl 1 rfl) ?_
  refine lv_aload_n hx hb dX1_copyFrom_51 rfl (lv_at hl 2 rfl) ?_
  refine k_get (v := .int cn2) S G 4 rfl rfl hiX1 3 (by decide) hf21 rfl dX1_copyFrom_52 ?_
  refine k_put (ws1 := [(k, .inr (1, [.ref km, .ref kt, .ref kb, .int cn2])), (km, .inl (cI, 6, .inl (upd (upd (upd (upd (upd (upd fm 0 (fm2 0)) 1 (fm2 1)) 2 (fm2 2)) 3 (fm2 3)) 4 (fm2 4)) 5 (fm2 5)))), (kt, .inl (cI, 6, .inl (upd (upd (upd (upd (upd (upd ft 0 (ft2 0)) 1 (ft2 1)) 2 (ft2 2)) 3 (ft2 3)) 4 (ft2 4)) 5 (ft2 5)))), (kb, .inl (cI, 6, .inl (upd (upd (upd (upd (upd (upd fb 0 (fb2 0)) 1 (fb2 1)) 2 (fb2 2)) 3 (fb2 3)) 4 (fb2 4)) 5 (fb2 5)))), (o, .inr (1, [.ref om, .ref ot, .ref ob, .int cn2])), (om, .inl (cI, 6, .inl fm2)), (ot, .inl (cI, 6, .inl ft2)), (ob, .inl (cI, 6, .inl fb2))]) S G 0 rfl rfl hiX1 tyX1 tyX1_ok nmX1 3 (by decide) hf21 rfl rfl rfl (Nat.le_of_ble_eq_true rfl) dX1_copyFrom_55 rfl (fun H locs G => ?_)
  have G := Gd.arr (ws1 := [(k, .inr (1, [.ref km, .ref kt, .ref kb, .int cn2])), (km, .inl (cI, 6, .inl fm2)), (kt, .inl (cI, 6, .inl (upd (upd (upd (upd (upd (upd ft 0 (ft2 0)) 1 (ft2 1)) 2 (ft2 2)) 3 (ft2 3)) 4 (ft2 4)) 5 (ft2 5)))), (kb, .inl (cI, 6, .inl (upd (upd (upd (upd (upd (upd fb 0 (fb2 0)) 1 (fb2 1)) 2 (fb2 2)) 3 (fb2 3)) 4 (fb2 4)) 5 (fb2 5)))), (o, .inr (1, [.ref om, .ref ot, .ref ob, .int cn2])), (om, .inl (cI, 6, .inl fm2)), (ot, .inl (cI, 6, .inl ft2)), (ob, .inl (cI, 6, .inl fb2))]) G 1 fm2 rfl (fun i hi => by rcases (show i = 0 ∨ i = 1 ∨ i = 2 ∨ i = 3 ∨ i = 4 ∨ i = 5 by omega) with rfl | rfl | rfl | rfl | rfl | rfl <;> rfl) rfl
  have G := Gd.arr (ws1 := [(k, .inr (1, [.ref km, .ref kt, .ref kb, .int cn2])), (km, .inl (cI, 6, .inl fm2)), (kt, .inl (cI, 6, .inl ft2)), (kb, .inl (cI, 6, .inl (upd (upd (upd (upd (upd (upd fb 0 (fb2 0)) 1 (fb2 1)) 2 (fb2 2)) 3 (fb2 3)) 4 (fb2 4)) 5 (fb2 5)))), (o, .inr (1, [.ref om, .ref ot, .ref ob, .int cn2])), (om, .inl (cI, 6, .inl fm2)), (ot, .inl (cI, 6, .inl ft2)), (ob, .inl (cI, 6, .inl fb2))]) G 2 ft2 rfl (fun i hi => by rcases (show i = 0 ∨ i = 1 ∨ i = 2 ∨ i = 3 ∨ i = 4 ∨ i = 5 by omega) with rfl | rfl | rfl | rfl | rfl | rfl <;> rfl) rfl
  have G := Gd.arr (ws1 := [(k, .inr (1, [.ref km, .ref kt, .ref kb, .int cn2])), (km, .inl (cI, 6, .inl fm2)), (kt, .inl (cI, 6, .inl ft2)), (kb, .inl (cI, 6, .inl fb2)), (o, .inr (1, [.ref om, .ref ot, .ref ob, .int cn2])), (om, .inl (cI, 6, .inl fm2)), (ot, .inl (cI, 6, .inl ft2)), (ob, .inl (cI, 6, .inl fb2))]) G 3 fb2 rfl (fun i hi => by rcases (show i = 0 ∨ i = 1 ∨ i = 2 ∨ i = 3 ∨ i = 4 ∨ i = 5 by omega) with rfl | rfl | rfl | rfl | rfl | rfl <;> rfl) rfl
  exact k_vret S G hr hlk dX1_copyFrom_58 rfl
/-- a record's rows into a hash: n entries from i on -/
def hashL (fm ft fb : Nat → Int32) : Nat → Nat → Int64 → Int64
  | 0, _, h => h
  | n + 1, i, h => hashL fm ft fb n (i + 1) (31 * (31 * (31 * h + (fm i).toInt64) + (ft i).toInt64) + (fb i).toInt64)
def cnOk (cn : Int32) : Prop := 0 ≤ cn ∧ cn ≤ 6
theorem cnOk_nat {cn : Int32} (h : cnOk cn) : ∃ N : Nat, N ≤ 6 ∧ cn = nI N := nI_of2 (M := 6) (by decide) (fun z => by have := h.1; exact absurd z (Int32.not_lt.mpr this)) h.2
set_option maxHeartbeats 4000000 in
set_option maxRecDepth 100000 in
theorem lp_X1_addToHash (l : Launch) (D : va_G) (cI cS : ClassId) (k : Nat) (km : Nat) (kt : Nat) (kb : Nat) (cn : Int32) (fm : Nat → Int32) (ft : Nat → Int32) (fb : Nat → Int32) (N : Nat) {p : Program} {ev : Env} {s : State} {m : MethodId} {args : Array Value} {below : List Frame} {meth : Method} {c : Code} {A : Nat → Prop} {Q : State → Prop} (S : CallFix p m c cX1_addToHash 6 s args wsX1_addToHash RX1)  :
    cn = nI N → N ≤ 6 → ∀ (n i : Nat) (h : Int64), i + n = N → (∀ (H : Heap) (locs : List Loc) (ls : Array Slot), Gd D (tyL cI cS) A s.heap s [(k, .inr (1, [.ref km, .ref kt, .ref kb, .int cn])), (km, .inl (cI, 6, .inl fm)), (kt, .inl (cI, 6, .inl ft)), (kb, .inl (cI, 6, .inl fb))] H locs → lv_has ls 6 [(3, .long (hashL fm ft fb n i h))] → W p l ev ({ frames := 0, cells := 0, slots := 0, locals := 0 }) s m args below meth c H locs 0 0 Q (F0 m 75 ls [])) → ∀ (H : Heap) (locs : List Loc) (ls : Array Slot), Gd D (tyL cI cS) A s.heap s [(k, .inr (1, [.ref km, .ref kt, .ref kb, .int cn])), (km, .inl (cI, 6, .inl fm)), (kt, .inl (cI, 6, .inl ft)), (kb, .inl (cI, 6, .inl fb))] H locs → lv_has ls 6 [(5, .int (nI i)), (3, .long h), (0, .ref k)] → W p l ev ({ frames := 0, cells := 0, slots := 0, locals := 0 }) s m args below meth c H locs 0 0 Q (F0 m 15 ls []) := by
  have hx := S.1
  have hb := S.2.1
  have hown : s.vm.findClass RX1 = some m.cls := S.2.2.2.1
  have hts := S.2.2.2.2
  have hiX1 : ∀ w ∈ wsX10, w ∈ wsX1_addToHash := by decide +kernel
  have hf9 := hts (.fieldLink RX1 9 "StrikingWork$Strikes" "minutes" "[I") (by decide +kernel)
  have hf15 := hts (.fieldLink RX1 15 "StrikingWork$Strikes" "trains" "[I") (by decide +kernel)
  have hf18 := hts (.fieldLink RX1 18 "StrikingWork$Strikes" "blows" "[I") (by decide +kernel)
  have hf21 := hts (.fieldLink RX1 21 "StrikingWork$Strikes" "count" "I") (by decide +kernel)
  have hk31 := hts (.constantLong RX1 31 31) (by decide +kernel)
  intro hc hN n
  induction n with
  | zero =>
    intro i h hin hk H locs ls G hl
    refine lv_iload hx hb dX1_addToHash_15 (lv_at hl 0 rfl) ?_
    refine lv_aload_n hx hb dX1_addToHash_17 rfl (lv_at hl 2 rfl) ?_
    refine k_get (v := .int cn) S G 0 rfl rfl hiX1 3 (by decide) hf21 rfl dX1_addToHash_18 ?_
    refine lv_icmp_ge (tgt := 75) hx hb dX1_addToHash_21 (by decide) (fun c_1 => ?_) (fun c_1 => absurd (show cn ≤ nI i by rw [hc]; exact nI_le (show N ≤ i by omega) (by omega)) c_1)
    exact hk _ _ ls G (lv_sub hl [1] rfl)
  | succ n ih =>
    intro i h hin hk H locs ls G hl
    refine lv_iload hx hb dX1_addToHash_15 (lv_at hl 0 rfl) ?_
    refine lv_aload_n hx hb dX1_addToHash_17 rfl (lv_at hl 2 rfl) ?_
    refine k_get (v := .int cn) S G 0 rfl rfl hiX1 3 (by decide) hf21 rfl dX1_addToHash_18 ?_
    refine lv_icmp_ge (tgt := 75) hx hb dX1_addToHash_21 (by decide) (fun c_1 => absurd c_1 (show ¬ cn ≤ nI i by rw [hc]; exact nI_ge (show i < N by omega) (by omega))) (fun c_1 => ?_)
    refine lv_ldc2 (v := 31) hx hb hown hk31 dX1_addToHash_24 ?_
    refine lv_lload_n hx hb dX1_addToHash_27 rfl (lv_at hl 1 rfl) ?_
    refine lv_lmul hx hb dX1_addToHash_28 ?_
    refine lv_aload_n hx hb dX1_addToHash_29 rfl (lv_at hl 2 rfl) ?_
    refine k_get (v := .ref km) S G 0 rfl rfl hiX1 0 (by decide) hf9 rfl dX1_addToHash_30 ?_
    refine lv_iload hx hb dX1_addToHash_33 (lv_at hl 0 rfl) ?_
    refine k_iald (x := (fm i)) S G 1 0 rfl rfl (vp_in_nI (show i < 6 by omega) (by decide)) (congrArg fm (nI_clamp (show i < 2 ^ 31 by omega))) dX1_addToHash_35 ?_
    refine lv_i2l (v := (fm i).toInt64) hx hb dX1_addToHash_36 rfl ?_
    refine lv_ladd hx hb dX1_addToHash_37 ?_
    refine lv_lstore_n (lv' := [(3, .long ((31 * h) + (fm i).toInt64)), (5, .int (nI i)), (0, .ref k)]) hx hb dX1_addToHash_38 rfl hl (by decide) rfl (fun ls hl => ?_)
    refine lv_ldc2 (v := 31) hx hb hown hk31 dX1_addToHash_39 ?_
    refine lv_lload_n hx hb dX1_addToHash_42 rfl (lv_at hl 0 rfl) ?_
    refine lv_lmul hx hb dX1_addToHash_43 ?_
    refine lv_aload_n hx hb dX1_addToHash_44 rfl (lv_at hl 2 rfl) ?_
    refine k_get (v := .ref kt) S G 0 rfl rfl hiX1 1 (by decide) hf15 rfl dX1_addToHash_45 ?_
    refine lv_iload hx hb dX1_addToHash_48 (lv_at hl 1 rfl) ?_
    refine k_iald (x := (ft i)) S G 2 0 rfl rfl (vp_in_nI (show i < 6 by omega) (by decide)) (congrArg ft (nI_clamp (show i < 2 ^ 31 by omega))) dX1_addToHash_50 ?_
    refine lv_i2l (v := (ft i).toInt64) hx hb dX1_addToHash_51 rfl ?_
    refine lv_ladd hx hb dX1_addToHash_52 ?_
    refine lv_lstore_n (lv' := [(3, .long ((31 * ((31 * h) + (fm i).toInt64)) + (ft i).toInt64)), (5, .int (nI i)), (0, .ref k)]) hx hb dX1_addToHash_53 rfl hl (by decide) rfl (fun ls hl => ?_)
    refine lv_ldc2 (v := 31) hx hb hown hk31 dX1_addToHash_54 ?_
    refine lv_lload_n hx hb dX1_addToHash_57 rfl (lv_at hl 0 rfl) ?_
    refine lv_lmul hx hb dX1_addToHash_58 ?_
    refine lv_aload_n hx hb dX1_addToHash_59 rfl (lv_at hl 2 rfl) ?_
    refine k_get (v := .ref kb) S G 0 rfl rfl hiX1 2 (by decide) hf18 rfl dX1_addToHash_60 ?_
    refine lv_iload hx hb dX1_addToHash_63 (lv_at hl 1 rfl) ?_
    refine k_iald (x := (fb i)) S G 3 0 rfl rfl (vp_in_nI (show i < 6 by omega) (by decide)) (congrArg fb (nI_clamp (show i < 2 ^ 31 by omega))) dX1_addToHash_65 ?_
    refine lv_i2l (v := (fb i).toInt64) hx hb dX1_addToHash_66 rfl ?_
    refine lv_ladd hx hb dX1_addToHash_67 ?_
    refine lv_lstore_n (lv' := [(3, .long ((31 * ((31 * ((31 * h) + (fm i).toInt64)) + (ft i).toInt64)) + (fb i).toInt64)), (5, .int (nI i)), (0, .ref k)]) hx hb dX1_addToHash_68 rfl hl (by decide) rfl (fun ls hl => ?_)
    refine lv_iinc (v := (nI (i + 1))) (lv' := [(5, .int (nI (i + 1))), (3, .long ((31 * ((31 * ((31 * h) + (fm i).toInt64)) + (ft i).toInt64)) + (fb i).toInt64)), (0, .ref k)]) hx hb dX1_addToHash_69 hl (k := 1) rfl (nI_1 i) (by decide) rfl (fun ls hl => ?_)
    refine lv_goto (tgt := 15) hx hb dX1_addToHash_72 (by decide) ?_
    exact ih (i + 1) ((31 * ((31 * ((31 * h) + (fm i).toInt64)) + (ft i).toInt64)) + (fb i).toInt64) (by omega) hk _ _ ls G (lv_sub hl [0, 1, 2] rfl)
def s_X1_addToHash (cn : Int32) (fm : Nat → Int32) (ft : Nat → Int32) (fb : Nat → Int32) (h : Int64) : Int64 := (hashL fm ft fb cn.toNatClampNeg 0 ((31 * h) + cn.toInt64))
set_option maxHeartbeats 4000000 in
set_option maxRecDepth 100000 in
theorem c_X1_addToHash (l : Launch) (D : va_G) (cI cS : ClassId) (k : Nat) (km : Nat) (kt : Nat) (kb : Nat) (cn : Int32) (fm : Nat → Int32) (ft : Nat → Int32) (fb : Nat → Int32) (h : Int64) (hcn : cnOk cn) : Ct l yX1_addToHash wsX1_addToHash ({ frames := 0, cells := 0, slots := 0, locals := 0 }) D (tyL cI cS) [.ref k, .long h] [(k, .inr (1, [.ref km, .ref kt, .ref kb, .int cn])), (km, .inl (cI, 6, .inl fm)), (kt, .inl (cI, 6, .inl ft)), (kb, .inl (cI, 6, .inl fb))] (some (.long (s_X1_addToHash cn fm ft fb h))) [(k, .inr (1, [.ref km, .ref kt, .ref kb, .int cn])), (km, .inl (cI, 6, .inl fm)), (kt, .inl (cI, 6, .inl ft)), (kb, .inl (cI, 6, .inl fb))] := by
  refine Ct.of (cc := cX1_addToHash) (maxL := 6) (ret := (some .long)) (by decide) rfl (Nat.le_of_ble_eq_true rfl) ?_
  intro p ev s m args below meth c A ls S hr hlk G hl
  have hx := S.1
  have hb := S.2.1
  have hown : s.vm.findClass RX1 = some m.cls := S.2.2.2.1
  have hts := S.2.2.2.2
  have hl : lv_has ls 6 [(0, .ref k), (1, .long h)] := hl
  have hiX1 : ∀ w ∈ wsX10, w ∈ wsX1_addToHash := by decide +kernel
  have hf21 := hts (.fieldLink RX1 21 "StrikingWork$Strikes" "count" "I") (by decide +kernel)
  have hk31 := hts (.constantLong RX1 31 31) (by decide +kernel)
  refine lv_ldc2 (v := 31) hx hb hown hk31 dX1_addToHash_0 ?_
  refine lv_lload_n hx hb dX1_addToHash_3 rfl (lv_at hl 1 rfl) ?_
  refine lv_lmul hx hb dX1_addToHash_4 ?_
  refine lv_aload_n hx hb dX1_addToHash_5 rfl (lv_at hl 0 rfl) ?_
  refine k_get (v := .int cn) S G 0 rfl rfl hiX1 3 (by decide) hf21 rfl dX1_addToHash_6 ?_
  refine lv_i2l (v := cn.toInt64) hx hb dX1_addToHash_9 rfl ?_
  refine lv_ladd hx hb dX1_addToHash_10 ?_
  refine lv_lstore_n (lv' := [(3, .long ((31 * h) + cn.toInt64)), (0, .ref k), (1, .long h)]) hx hb dX1_addToHash_11 rfl hl (by decide) rfl (fun ls hl => ?_)
  refine lv_iconst (v := 0) hx hb dX1_addToHash_12 (by decide) ?_
  refine lv_istore (lv' := [(5, .int 0), (3, .long ((31 * h) + cn.toInt64)), (0, .ref k), (1, .long h)]) hx hb dX1_addToHash_13 hl (by decide) rfl (fun ls hl => ?_)
  obtain ⟨N, hN, hc⟩ := cnOk_nat hcn
  refine lp_X1_addToHash l D cI cS k km kt kb cn fm ft fb N S hc hN N 0 ((31 * h) + cn.toInt64) (by omega) (fun H locs ls G hl => ?_) _ _ ls G (lv_sub hl [0, 1, 2] rfl)
  rw [show hashL fm ft fb N 0 ((31 * h) + cn.toInt64) = hashL fm ft fb cn.toNatClampNeg 0 ((31 * h) + cn.toInt64) by rw [hc, nI_clamp (show N < 2 ^ 31 by omega)]] at hl
  refine lv_lload_n hx hb dX1_addToHash_75 rfl (lv_at hl 0 rfl) ?_
  have es : (s_X1_addToHash cn fm ft fb h) = (hashL fm ft fb cn.toNatClampNeg 0 ((31 * h) + cn.toInt64)) := rfl
  exact k_lret S G hr hlk dX1_addToHash_76 (by first | (rw [es]; done) | (rw [es]; rfl) | (simp only [es]; done) | (simp only [es]; rfl)) rfl
