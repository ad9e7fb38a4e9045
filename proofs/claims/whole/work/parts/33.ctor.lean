def adF (q : Nat) (bb : Nat → Nat) : Nat → Nat := fun k => if k = 0 then q else bb (k - 1)
/-- a new State's numbers -/
def r00 : Nat → Int32 := fun j => if j = 4 then 1 else if j = 5 then 1 else if j = 6 then 2000 else if j = 9 then 1 else if j = 10 then 1 else if j = 11 then 2000 else 0
def e00 : Nat → Nat → Int32 := fun _ _ => 0
set_option maxHeartbeats 4000000 in
set_option maxRecDepth 100000 in
theorem c_X2_init (l : Launch) (D : va_G) (cI cS : ClassId) (t : Nat) (n : Int32) (mm : Int32) (pp : Int32) (wt : Int32) (sd : Int32) (ms : Int32) (q : Int32) : Ct l yX2_init wsX2_init ({ frames := 1, cells := 0, slots := 0, locals := 12 }) D (tyL cI cS) [.ref t, .int q] [(t, .inr (2, [.int n, .int mm, .int pp, .int wt, .int sd, .int ms]))] none [(t, .inr (2, [.int q, .int 1, .int 1, .int 2000, .int 0, .int 0]))] := by
  refine Ct.of (cc := cX2_init) (maxL := 2) (ret := none) (by decide) rfl (Nat.le_of_ble_eq_true rfl) ?_
  intro p ev s m args below meth c A ls S hr hlk G hl
  have hx := S.1
  have hb := S.2.1
  have hown : s.vm.findClass RX2 = some m.cls := S.2.2.2.1
  have hts := S.2.2.2.2
  have hl : lv_has ls 2 [(0, .ref t), (1, .int q)] := hl
  have hiX2 : ∀ w ∈ wsX20, w ∈ wsX2_init := by decide +kernel
  have hf9 := hts (.fieldLink RX2 9 "StrikingWork$Train" "mechanism" "I") (by decide +kernel)
  have hf15 := hts (.fieldLink RX2 15 "StrikingWork$Train" "position" "I") (by decide +kernel)
  have hf18 := hts (.fieldLink RX2 18 "StrikingWork$Train" "weight" "I") (by decide +kernel)
  have hf21 := hts (.fieldLink RX2 21 "StrikingWork$Train" "sounded" "I") (by decide +kernel)
  have hf24 := hts (.fieldLink RX2 24 "StrikingWork$Train" "missed" "I") (by decide +kernel)
  have hf27 := hts (.fieldLink RX2 27 "StrikingWork$Train" "number" "I") (by decide +kernel)
  refine lv_aload_n hx hb dX2_init_0 rfl (lv_at hl 0 rfl) ?_
  refine k_objInit S hl.1 (hts (.methodLink RX2 3 objectInit) (by decide +kernel)) (hts (.instanceMethod objectInit) (by decide +kernel)) (hts (.code objectInit ⟨#[0xb1]⟩ 1 none) (List.mem_of_getElem? (i := 3) rfl)) dX2_init_1 (Nat.le_of_ble_eq_true rfl) (Nat.le_of_ble_eq_true rfl) ?_
  refine lv_aload_n hx hb dX2_init_4 rfl (lv_at hl 0 rfl) ?_
  refine lv_iconst (v := 1) hx hb dX2_init_5 (by decide) ?_
  refine k_put (ws1 := [(t, .inr (2, [.int n, .int 1, .int pp, .int wt, .int sd, .int ms]))]) S G 0 rfl rfl hiX2 tyX2 tyX2_ok nmX2 1 (by decide) hf9 rfl rfl rfl (Nat.le_of_ble_eq_true rfl) dX2_init_6 rfl (fun H locs G => ?_)
  refine lv_aload_n hx hb dX2_init_9 rfl (lv_at hl 0 rfl) ?_
  refine lv_iconst (v := 1) hx hb dX2_init_10 (by decide) ?_
  refine k_put (ws1 := [(t, .inr (2, [.int n, .int 1, .int 1, .int wt, .int sd, .int ms]))]) S G 0 rfl rfl hiX2 tyX2 tyX2_ok nmX2 2 (by decide) hf15 rfl rfl rfl (Nat.le_of_ble_eq_true rfl) dX2_init_11 rfl (fun H locs G => ?_)
  refine lv_aload_n hx hb dX2_init_14 rfl (lv_at hl 0 rfl) ?_
  refine lv_sipush (v := 2000) hx hb dX2_init_15 (by decide) ?_
  refine k_put (ws1 := [(t, .inr (2, [.int n, .int 1, .int 1, .int 2000, .int sd, .int ms]))]) S G 0 rfl rfl hiX2 tyX2 tyX2_ok nmX2 3 (by decide) hf18 rfl rfl rfl (Nat.le_of_ble_eq_true rfl) dX2_init_18 rfl (fun H locs G => ?_)
  refine lv_aload_n hx hb dX2_init_21 rfl (lv_at hl 0 rfl) ?_
  refine lv_iconst (v := 0) hx hb dX2_init_22 (by decide) ?_
  refine k_put (ws1 := [(t, .inr (2, [.int n, .int 1, .int 1, .int 2000, .int 0, .int ms]))]) S G 0 rfl rfl hiX2 tyX2 tyX2_ok nmX2 4 (by decide) hf21 rfl rfl rfl (Nat.le_of_ble_eq_true rfl) dX2_init_23 rfl (fun H locs G => ?_)
  refine lv_aload_n hx hb dX2_init_26 rfl (lv_at hl 0 rfl) ?_
  refine lv_iconst (v := 0) hx hb dX2_init_27 (by decide) ?_
  refine k_put (ws1 := [(t, .inr (2, [.int n, .int 1, .int 1, .int 2000, .int 0, .int 0]))]) S G 0 rfl rfl hiX2 tyX2 tyX2_ok nmX2 5 (by decide) hf24 rfl rfl rfl (Nat.le_of_ble_eq_true rfl) dX2_init_28 rfl (fun H locs G => ?_)
  refine lv_aload_n hx hb dX2_init_31 rfl (lv_at hl 0 rfl) ?_
  refine lv_iload_n hx hb dX2_init_32 rfl (lv_at hl 1 rfl) ?_
  refine k_put (ws1 := [(t, .inr (2, [.int q, .int 1, .int 1, .int 2000, .int 0, .int 0]))]) S G 0 rfl rfl hiX2 tyX2 tyX2_ok nmX2 0 (by decide) hf27 rfl rfl rfl (Nat.le_of_ble_eq_true rfl) dX2_init_33 rfl (fun H locs G => ?_)
  exact k_vret S G hr hlk dX2_init_36 rfl
set_option maxHeartbeats 4000000 in
set_option maxRecDepth 100000 in
theorem c_X1_init (l : Launch) (D : va_G) (cI cS : ClassId) (k : Nat) : CtN l yX1_init wsX1_init ({ frames := 1, cells := 3, slots := 18, locals := 12 }) D (tyL cI cS) [.ref k] [(k, .inr (1, [.null, .null, .null, .int 0]))] 3 18 (fun bb => [(k, .inr (1, [.ref (bb 0), .ref (bb 1), .ref (bb 2), .int 0])), (bb 0, .inl (cI, 6, .inl (fun _ => 0))), (bb 1, .inl (cI, 6, .inl (fun _ => 0))), (bb 2, .inl (cI, 6, .inl (fun _ => 0)))]) := by
  refine CtN.of (cc := cX1_init) (maxL := 1) (ret := none) (by decide) rfl (Nat.le_of_ble_eq_true rfl) ?_
  intro p ev s m args below meth c A ls S hr hlk hin hN G hl
  have hx := S.1
  have hb := S.2.1
  have hown : s.vm.findClass RX1 = some m.cls := S.2.2.2.1
  have hts := S.2.2.2.2
  have hl : lv_has ls 1 [(0, .ref k)] := hl
  have hiX1 : ∀ w ∈ wsX10, w ∈ wsX1_init := by decide +kernel
  have hf9 := hts (.fieldLink RX1 9 "StrikingWork$Strikes" "minutes" "[I") (by decide +kernel)
  have hf15 := hts (.fieldLink RX1 15 "StrikingWork$Strikes" "trains" "[I") (by decide +kernel)
  have hf18 := hts (.fieldLink RX1 18 "StrikingWork$Strikes" "blows" "[I") (by decide +kernel)
  have hf21 := hts (.fieldLink RX1 21 "StrikingWork$Strikes" "count" "I") (by decide +kernel)
  refine lv_aload_n hx hb dX1_init_0 rfl (lv_at hl 0 rfl) ?_
  refine k_objInit S hl.1 (hts (.methodLink RX1 3 objectInit) (by decide +kernel)) (hts (.instanceMethod objectInit) (by decide +kernel)) (hts (.code objectInit ⟨#[0xb1]⟩ 1 none) (List.mem_of_getElem? (i := 3) rfl)) dX1_init_1 (Nat.le_of_ble_eq_true rfl) (Nat.le_of_ble_eq_true rfl) ?_
  refine lv_aload_n hx hb dX1_init_4 rfl (lv_at hl 0 rfl) ?_
  refine lv_bipush (v := 6) hx hb dX1_init_5 (by decide) ?_
  refine k_newa (N := 6) (c1 := 1) (s1 := 6) S G 0 rfl (hts (.arrayClass .int) (by decide +kernel)) (by decide) (by decide) (by decide) rfl rfl (Nat.le_of_ble_eq_true rfl) (Nat.le_of_ble_eq_true rfl) dX1_init_7 (fun q7x0 H G => ?_)
  have G := Gd.eq (ws1 := [(k, .inr (1, [.null, .null, .null, .int 0])), (q7x0, .inl (cI, 6, .inl (fun _ => 0)))]) G rfl
  refine k_putF (ws1 := [(k, .inr (1, [.ref q7x0, .null, .null, .int 0])), (q7x0, .inl (cI, 6, .inl (fun _ => 0)))]) S G hin 0 rfl rfl hiX1 tyX1 tyX1_ok nmX1 0 (by decide) hf9 rfl rfl rfl rfl (Nat.le_of_ble_eq_true rfl) dX1_init_9 rfl (fun H locs G => ?_)
  refine lv_aload_n hx hb dX1_init_12 rfl (lv_at hl 0 rfl) ?_
  refine lv_bipush (v := 6) hx hb dX1_init_13 (by decide) ?_
  refine k_newa (N := 6) (c1 := 2) (s1 := 12) S G 0 rfl (hts (.arrayClass .int) (by decide +kernel)) (by decide) (by decide) (by decide) rfl rfl (Nat.le_of_ble_eq_true rfl) (Nat.le_of_ble_eq_true rfl) dX1_init_15 (fun q15x1 H G => ?_)
  have G := Gd.eq (ws1 := [(k, .inr (1, [.ref q7x0, .null, .null, .int 0])), (q7x0, .inl (cI, 6, .inl (fun _ => 0))), (q15x1, .inl (cI, 6, .inl (fun _ => 0)))]) G rfl
  refine k_putF (ws1 := [(k, .inr (1, [.ref q7x0, .ref q15x1, .null, .int 0])), (q7x0, .inl (cI, 6, .inl (fun _ => 0))), (q15x1, .inl (cI, 6, .inl (fun _ => 0)))]) S G hin 0 rfl rfl hiX1 tyX1 tyX1_ok nmX1 1 (by decide) hf15 rfl rfl rfl rfl (Nat.le_of_ble_eq_true rfl) dX1_init_17 rfl (fun H locs G => ?_)
  refine lv_aload_n hx hb dX1_init_20 rfl (lv_at hl 0 rfl) ?_
  refine lv_bipush (v := 6) hx hb dX1_init_21 (by decide) ?_
  refine k_newa (N := 6) (c1 := 3) (s1 := 18) S G 0 rfl (hts (.arrayClass .int) (by decide +kernel)) (by decide) (by decide) (by decide) rfl rfl (Nat.le_of_ble_eq_true rfl) (Nat.le_of_ble_eq_true rfl) dX1_init_23 (fun q23x2 H G => ?_)
  have G := Gd.eq (ws1 := [(k, .inr (1, [.ref q7x0, .ref q15x1, .null, .int 0])), (q7x0, .inl (cI, 6, .inl (fun _ => 0))), (q15x1, .inl (cI, 6, .inl (fun _ => 0))), (q23x2, .inl (cI, 6, .inl (fun _ => 0)))]) G rfl
  refine k_putF (ws1 := [(k, .inr (1, [.ref q7x0, .ref q15x1, .ref q23x2, .int 0])), (q7x0, .inl (cI, 6, .inl (fun _ => 0))), (q15x1, .inl (cI, 6, .inl (fun _ => 0))), (q23x2, .inl (cI, 6, .inl (fun _ => 0)))]) S G hin 0 rfl rfl hiX1 tyX1 tyX1_ok nmX1 2 (by decide) hf18 rfl rfl rfl rfl (Nat.le_of_ble_eq_true rfl) dX1_init_25 rfl (fun H locs G => ?_)
  refine lv_aload_n hx hb dX1_init_28 rfl (lv_at hl 0 rfl) ?_
  refine lv_iconst (v := 0) hx hb dX1_init_29 (by decide) ?_
  refine k_put (ws1 := [(k, .inr (1, [.ref q7x0, .ref q15x1, .ref q23x2, .int 0])), (q7x0, .inl (cI, 6, .inl (fun _ => 0))), (q15x1, .inl (cI, 6, .inl (fun _ => 0))), (q23x2, .inl (cI, 6, .inl (fun _ => 0)))]) S G 0 rfl rfl hiX1 tyX1 tyX1_ok nmX1 3 (by decide) hf21 rfl rfl rfl (Nat.le_of_ble_eq_true rfl) dX1_init_30 rfl (fun H locs G => ?_)
  exact k_nret (fun j => if j = 0 then q7x0 else if j = 1 then q15x1 else q23x2) S G hr hlk dX1_init_33 rfl
set_option maxHeartbeats 4000000 in
set_option maxRecDepth 100000 in
theorem c_X0_init (l : Launch) (D : va_G) (cI cS : ClassId) (t : Nat) : CtN l yX0_init wsX0_init ({ frames := 2, cells := 6, slots := 34, locals := 33 }) D (tyL cI cS) [.ref t] [(t, .inr (0, [.null, .null, .null, .int 0, .int 0, .int 0, .int 0]))] 6 34 (fun bb => stW cI (adF t bb) r00 e00 []) := by
  refine CtN.of (cc := cX0_init) (maxL := 1) (ret := none) (by decide) rfl (Nat.le_of_ble_eq_true rfl) ?_
  intro p ev s m args below meth c A ls S hr hlk hin hN G hl
  have hx := S.1
  have hb := S.2.1
  have hown : s.vm.findClass RX0 = some m.cls := S.2.2.2.1
  have hts := S.2.2.2.2
  have hl : lv_has ls 1 [(0, .ref t)] := hl
  have hiX0 : ∀ w ∈ wsX00, w ∈ wsX0_init := by decide +kernel
  have hiX1 : ∀ w ∈ wsX10, w ∈ wsX0_init := by decide +kernel
  have hiX2 : ∀ w ∈ wsX20, w ∈ wsX0_init := by decide +kernel
  have hf14 := hts (.fieldLink RX0 14 "StrikingWork$State" "hours" "LStrikingWork$Train;") (by decide +kernel)
  have hf20 := hts (.fieldLink RX0 20 "StrikingWork$State" "quarters" "LStrikingWork$Train;") (by decide +kernel)
  have hf26 := hts (.fieldLink RX0 26 "StrikingWork$State" "strikes" "LStrikingWork$Strikes;") (by decide +kernel)
  have hf30 := hts (.fieldLink RX0 30 "StrikingWork$State" "minute" "I") (by decide +kernel)
  have hf34 := hts (.fieldLink RX0 34 "StrikingWork$State" "silenceMode" "I") (by decide +kernel)
  have hf37 := hts (.fieldLink RX0 37 "StrikingWork$State" "silenceBegin" "I") (by decide +kernel)
  have hf40 := hts (.fieldLink RX0 40 "StrikingWork$State" "silenceEnd" "I") (by decide +kernel)
  refine lv_aload_n hx hb dX0_init_0 rfl (lv_at hl 0 rfl) ?_
  refine k_objInit S hl.1 (hts (.methodLink RX0 3 objectInit) (by decide +kernel)) (hts (.instanceMethod objectInit) (by decide +kernel)) (hts (.code objectInit ⟨#[0xb1]⟩ 1 none) (List.mem_of_getElem? (i := 3) rfl)) dX0_init_1 (Nat.le_of_ble_eq_true rfl) (Nat.le_of_ble_eq_true rfl) ?_
  refine lv_aload_n hx hb dX0_init_4 rfl (lv_at hl 0 rfl) ?_
  refine k_new (ci := 2) (fs := [.int 0, .int 0, .int 0, .int 0, .int 0, .int 0]) (C := RX2) (T := TX2) (N := 6) (c1 := 1) (s1 := 6) S G hiX2 tyX2 tyX2_ok (hts (.classLink RX0 9 RX2) (by decide +kernel)) (hts (.instantiable RX2 6) (by decide +kernel)) (hts (.initialized RX2) (by decide +kernel)) rfl (fun j hj => by rcases (show j = 0 ∨ j = 1 ∨ j = 2 ∨ j = 3 ∨ j = 4 ∨ j = 5 by omega) with rfl | rfl | rfl | rfl | rfl | rfl <;> rfl) rfl rfl (Nat.le_of_ble_eq_true rfl) (Nat.le_of_ble_eq_true rfl) dX0_init_5 (fun q5x0 H G => ?_)
  have G := Gd.eq (ws1 := [(t, .inr (0, [.null, .null, .null, .int 0, .int 0, .int 0, .int 0])), (q5x0, .inr (2, [.int 0, .int 0, .int 0, .int 0, .int 0, .int 0]))]) G rfl
  refine lv_dup hx hb dX0_init_8 rfl ?_
  refine lv_iconst (v := 0) hx hb dX0_init_9 (by decide) ?_
  refine k_callI (n := 1) (As := [.int 0]) (rest := [.ref q5x0, .ref t]) (ws1 := [(t, .inr (0, [.null, .null, .null, .int 0, .int 0, .int 0, .int 0])), (q5x0, .inr (2, [.int 0, .int 1, .int 1, .int 2000, .int 0, .int 0]))]) S G (c_X2_init l D cI cS q5x0 0 0 0 0 0 0 0) gX0_init_X2_init rfl (hts (.initialized RX2) (by decide +kernel)) (hts (.methodLink RX0 11 yX2_init) (by decide +kernel)) (hts (.instanceMethod yX2_init) (by decide +kernel)) rfl (by decide +kernel) ⟨⟨rfl, rfl⟩, Nat.le_of_ble_eq_true rfl, Nat.le_of_ble_eq_true rfl⟩ [1] (by decide) rfl [q5x0] rfl rfl rfl hl.1 rfl (Nat.le_of_ble_eq_true rfl) ⟨Nat.le_of_ble_eq_true rfl, Nat.le_of_ble_eq_true rfl⟩ dX0_init_10 rfl (fun H locs G => ?_)
  refine k_putF (ws1 := [(t, .inr (0, [.ref q5x0, .null, .null, .int 0, .int 0, .int 0, .int 0])), (q5x0, .inr (2, [.int 0, .int 1, .int 1, .int 2000, .int 0, .int 0]))]) S G hin 0 rfl rfl hiX0 tyX0 tyX0_ok nmX0 0 (by decide) hf14 rfl rfl rfl rfl (Nat.le_of_ble_eq_true rfl) dX0_init_13 rfl (fun H locs G => ?_)
  refine lv_aload_n hx hb dX0_init_16 rfl (lv_at hl 0 rfl) ?_
  refine k_new (ci := 2) (fs := [.int 0, .int 0, .int 0, .int 0, .int 0, .int 0]) (C := RX2) (T := TX2) (N := 6) (c1 := 2) (s1 := 12) S G hiX2 tyX2 tyX2_ok (hts (.classLink RX0 9 RX2) (by decide +kernel)) (hts (.instantiable RX2 6) (by decide +kernel)) (hts (.initialized RX2) (by decide +kernel)) rfl (fun j hj => by rcases (show j = 0 ∨ j = 1 ∨ j = 2 ∨ j = 3 ∨ j = 4 ∨ j = 5 by omega) with rfl | rfl | rfl | rfl | rfl | rfl <;> rfl) rfl rfl (Nat.le_of_ble_eq_true rfl) (Nat.le_of_ble_eq_true rfl) dX0_init_17 (fun q17x1 H G => ?_)
  have G := Gd.eq (ws1 := [(t, .inr (0, [.ref q5x0, .null, .null, .int 0, .int 0, .int 0, .int 0])), (q5x0, .inr (2, [.int 0, .int 1, .int 1, .int 2000, .int 0, .int 0])), (q17x1, .inr (2, [.int 0, .int 0, .int 0, .int 0, .int 0, .int 0]))]) G rfl
  refine lv_dup hx hb dX0_init_20 rfl ?_
  refine lv_iconst (v := 1) hx hb dX0_init_21 (by decide) ?_
  refine k_callI (n := 1) (As := [.int 1]) (rest := [.ref q17x1, .ref t]) (ws1 := [(t, .inr (0, [.ref q5x0, .null, .null, .int 0, .int 0, .int 0, .int 0])), (q5x0, .inr (2, [.int 0, .int 1, .int 1, .int 2000, .int 0, .int 0])), (q17x1, .inr (2, [.int 1, .int 1, .int 1, .int 2000, .int 0, .int 0]))]) S G (c_X2_init l D cI cS q17x1 0 0 0 0 0 0 1) gX0_init_X2_init rfl (hts (.initialized RX2) (by decide +kernel)) (hts (.methodLink RX0 11 yX2_init) (by decide +kernel)) (hts (.instanceMethod yX2_init) (by decide +kernel)) rfl (by decide +kernel) ⟨⟨rfl, rfl⟩, Nat.le_of_ble_eq_true rfl, Nat.le_of_ble_eq_true rfl⟩ [2] (by decide) rfl [q17x1] rfl rfl rfl hl.1 rfl (Nat.le_of_ble_eq_true rfl) ⟨Nat.le_of_ble_eq_true rfl, Nat.le_of_ble_eq_true rfl⟩ dX0_init_22 rfl (fun H locs G => ?_)
  refine k_putF (ws1 := [(t, .inr (0, [.ref q5x0, .ref q17x1, .null, .int 0, .int 0, .int 0, .int 0])), (q5x0, .inr (2, [.int 0, .int 1, .int 1, .int 2000, .int 0, .int 0])), (q17x1, .inr (2, [.int 1, .int 1, .int 1, .int 2000, .int 0, .int 0]))]) S G hin 0 rfl rfl hiX0 tyX0 tyX0_ok nmX0 1 (by decide) hf20 rfl rfl rfl rfl (Nat.le_of_ble_eq_true rfl) dX0_init_25 rfl (fun H locs G => ?_)
  refine lv_aload_n hx hb dX0_init_28 rfl (lv_at hl 0 rfl) ?_
  refine k_new (ci := 1) (fs := [.null, .null, .null, .int 0]) (C := RX1) (T := TX1) (N := 4) (c1 := 3) (s1 := 16) S G hiX1 tyX1 tyX1_ok (hts (.classLink RX0 23 RX1) (by decide +kernel)) (hts (.instantiable RX1 4) (by decide +kernel)) (hts (.initialized RX1) (by decide +kernel)) rfl (fun j hj => by rcases (show j = 0 ∨ j = 1 ∨ j = 2 ∨ j = 3 by omega) with rfl | rfl | rfl | rfl <;> rfl) rfl rfl (Nat.le_of_ble_eq_true rfl) (Nat.le_of_ble_eq_true rfl) dX0_init_29 (fun q29x2 H G => ?_)
  have G := Gd.eq (ws1 := [(t, .inr (0, [.ref q5x0, .ref q17x1, .null, .int 0, .int 0, .int 0, .int 0])), (q5x0, .inr (2, [.int 0, .int 1, .int 1, .int 2000, .int 0, .int 0])), (q17x1, .inr (2, [.int 1, .int 1, .int 1, .int 2000, .int 0, .int 0])), (q29x2, .inr (1, [.null, .null, .null, .int 0]))]) G rfl
  refine lv_dup hx hb dX0_init_32 rfl ?_
  refine k_callMN (c1 := 6) (s1 := 34) [(t, .inr (0, [.ref q5x0, .ref q17x1, .null, .int 0, .int 0, .int 0, .int 0])), (q5x0, .inr (2, [.int 0, .int 1, .int 1, .int 2000, .int 0, .int 0])), (q17x1, .inr (2, [.int 1, .int 1, .int 1, .int 2000, .int 0, .int 0]))] S G hN (c_X1_init l D cI cS q29x2) gX0_init_X1_init_n25 rfl hN.2.1 (hts (.initialized RX1) (by decide +kernel)) (hts (.instanceMethod yX1_init) (by decide +kernel)) rfl (by decide +kernel) ⟨⟨rfl, rfl⟩, Nat.le_of_ble_eq_true rfl, Nat.le_of_ble_eq_true rfl⟩ rfl hl.1 rfl (Nat.le_of_ble_eq_true rfl) rfl rfl ⟨Nat.le_of_ble_eq_true rfl, Nat.le_of_ble_eq_true rfl⟩ dX0_init_33 (fun b3 H locs G => ?_)
  have G := Gd.eq (ws1 := [(t, .inr (0, [.ref q5x0, .ref q17x1, .null, .int 0, .int 0, .int 0, .int 0])), (q5x0, .inr (2, [.int 0, .int 1, .int 1, .int 2000, .int 0, .int 0])), (q17x1, .inr (2, [.int 1, .int 1, .int 1, .int 2000, .int 0, .int 0])), (q29x2, .inr (1, [.ref (b3 0), .ref (b3 1), .ref (b3 2), .int 0])), ((b3 0), .inl (cI, 6, .inl (fun _ => 0))), ((b3 1), .inl (cI, 6, .inl (fun _ => 0))), ((b3 2), .inl (cI, 6, .inl (fun _ => 0)))]) G rfl
  refine k_putF (ws1 := [(t, .inr (0, [.ref q5x0, .ref q17x1, .ref q29x2, .int 0, .int 0, .int 0, .int 0])), (q5x0, .inr (2, [.int 0, .int 1, .int 1, .int 2000, .int 0, .int 0])), (q17x1, .inr (2, [.int 1, .int 1, .int 1, .int 2000, .int 0, .int 0])), (q29x2, .inr (1, [.ref (b3 0), .ref (b3 1), .ref (b3 2), .int 0])), ((b3 0), .inl (cI, 6, .inl (fun _ => 0))), ((b3 1), .inl (cI, 6, .inl (fun _ => 0))), ((b3 2), .inl (cI, 6, .inl (fun _ => 0)))]) S G hin 0 rfl rfl hiX0 tyX0 tyX0_ok nmX0 2 (by decide) hf26 rfl rfl rfl rfl (Nat.le_of_ble_eq_true rfl) dX0_init_36 rfl (fun H locs G => ?_)
  refine lv_aload_n hx hb dX0_init_39 rfl (lv_at hl 0 rfl) ?_
  refine lv_iconst (v := 0) hx hb dX0_init_40 (by decide) ?_
  refine k_put (ws1 := [(t, .inr (0, [.ref q5x0, .ref q17x1, .ref q29x2, .int 0, .int 0, .int 0, .int 0])), (q5x0, .inr (2, [.int 0, .int 1, .int 1, .int 2000, .int 0, .int 0])), (q17x1, .inr (2, [.int 1, .int 1, .int 1, .int 2000, .int 0, .int 0])), (q29x2, .inr (1, [.ref (b3 0), .ref (b3 1), .ref (b3 2), .int 0])), ((b3 0), .inl (cI, 6, .inl (fun _ => 0))), ((b3 1), .inl (cI, 6, .inl (fun _ => 0))), ((b3 2), .inl (cI, 6, .inl (fun _ => 0)))]) S G 0 rfl rfl hiX0 tyX0 tyX0_ok nmX0 3 (by decide) hf30 rfl rfl rfl (Nat.le_of_ble_eq_true rfl) dX0_init_41 rfl (fun H locs G => ?_)
  refine lv_aload_n hx hb dX0_init_44 rfl (lv_at hl 0 rfl) ?_
  refine lv_iconst (v := 0) hx hb dX0_init_45 (by decide) ?_
  refine k_put (ws1 := [(t, .inr (0, [.ref q5x0, .ref q17x1, .ref q29x2, .int 0, .int 0, .int 0, .int 0])), (q5x0, .inr (2, [.int 0, .int 1, .int 1, .int 2000, .int 0, .int 0])), (q17x1, .inr (2, [.int 1, .int 1, .int 1, .int 2000, .int 0, .int 0])), (q29x2, .inr (1, [.ref (b3 0), .ref (b3 1), .ref (b3 2), .int 0])), ((b3 0), .inl (cI, 6, .inl (fun _ => 0))), ((b3 1), .inl (cI, 6, .inl (fun _ => 0))), ((b3 2), .inl (cI, 6, .inl (fun _ => 0)))]) S G 0 rfl rfl hiX0 tyX0 tyX0_ok nmX0 4 (by decide) hf34 rfl rfl rfl (Nat.le_of_ble_eq_true rfl) dX0_init_46 rfl (fun H locs G => ?_)
  refine lv_aload_n hx hb dX0_init_49 rfl (lv_at hl 0 rfl) ?_
  refine lv_iconst (v := 0) hx hb dX0_init_50 (by decide) ?_
  refine k_put (ws1 := [(t, .inr (0, [.ref q5x0, .ref q17x1, .ref q29x2, .int 0, .int 0, .int 0, .int 0])), (q5x0, .inr (2, [.int 0, .int 1, .int 1, .int 2000, .int 0, .int 0])), (q17x1, .inr (2, [.int 1, .int 1, .int 1, .int 2000, .int 0, .int 0])), (q29x2, .inr (1, [.ref (b3 0), .ref (b3 1), .ref (b3 2), .int 0])), ((b3 0), .inl (cI, 6, .inl (fun _ => 0))), ((b3 1), .inl (cI, 6, .inl (fun _ => 0))), ((b3 2), .inl (cI, 6, .inl (fun _ => 0)))]) S G 0 rfl rfl hiX0 tyX0 tyX0_ok nmX0 5 (by decide) hf37 rfl rfl rfl (Nat.le_of_ble_eq_true rfl) dX0_init_51 rfl (fun H locs G => ?_)
  refine lv_aload_n hx hb dX0_init_54 rfl (lv_at hl 0 rfl) ?_
  refine lv_iconst (v := 0) hx hb dX0_init_55 (by decide) ?_
  refine k_put (ws1 := [(t, .inr (0, [.ref q5x0, .ref q17x1, .ref q29x2, .int 0, .int 0, .int 0, .int 0])), (q5x0, .inr (2, [.int 0, .int 1, .int 1, .int 2000, .int 0, .int 0])), (q17x1, .inr (2, [.int 1, .int 1, .int 1, .int 2000, .int 0, .int 0])), (q29x2, .inr (1, [.ref (b3 0), .ref (b3 1), .ref (b3 2), .int 0])), ((b3 0), .inl (cI, 6, .inl (fun _ => 0))), ((b3 1), .inl (cI, 6, .inl (fun _ => 0))), ((b3 2), .inl (cI, 6, .inl (fun _ => 0)))]) S G 0 rfl rfl hiX0 tyX0 tyX0_ok nmX0 6 (by decide) hf40 rfl rfl rfl (Nat.le_of_ble_eq_true rfl) dX0_init_56 rfl (fun H locs G => ?_)
  exact k_nret (fun j => if j = 0 then q5x0 else if j = 1 then q17x1 else if j = 2 then q29x2 else if j = 3 then (b3 0) else if j = 4 then (b3 1) else (b3 2)) S G hr hlk dX0_init_59 rfl
set_option maxHeartbeats 4000000 in
set_option maxRecDepth 100000 in
theorem c_X3_init (l : Launch) (D : va_G) (cI cS : ClassId) (x : Nat) : CtN l yX3_init wsX3_init ({ frames := 3, cells := 45, slots := 260, locals := 53 }) D (tyL cI cS) [.ref x] [(x, .inr (3, [.null, .null, .null, .null, .int 0]))] 45 260 (fun bb => W3 cI cS x (bb 0) (bb 1) (bb 2) (fun k => bb (3 + k)) 0 (fun _ => 0) r00 e00 0 1 1 2000 0 0 (fun i k => bb (10 + 7 * i + k)) (fun _ => r00) (fun _ => e00) []) := by
  refine CtN.of (cc := cX3_init) (maxL := 2) (ret := none) (by decide) rfl (Nat.le_of_ble_eq_true rfl) ?_
  intro p ev s m args below meth c A ls S hr hlk hin hN G hl
  have hx := S.1
  have hb := S.2.1
  have hown : s.vm.findClass RX3 = some m.cls := S.2.2.2.1
  have hts := S.2.2.2.2
  have hl : lv_has ls 2 [(0, .ref x)] := hl
  have hiX0 : ∀ w ∈ wsX00, w ∈ wsX3_init := by decide +kernel
  have hiX2 : ∀ w ∈ wsX20, w ∈ wsX3_init := by decide +kernel
  have hiX3 : ∀ w ∈ wsX30, w ∈ wsX3_init := by decide +kernel
  have hf10 := hts (.fieldLink RX3 10 "StrikingWork" "now" "LStrikingWork$State;") (by decide +kernel)
  have hf16 := hts (.fieldLink RX3 16 "StrikingWork" "saved" "[LStrikingWork$State;") (by decide +kernel)
  have hf25 := hts (.fieldLink RX3 25 "StrikingWork" "trial" "LStrikingWork$Train;") (by decide +kernel)
  have hf29 := hts (.fieldLink RX3 29 "StrikingWork" "errors" "[I") (by decide +kernel)
  have hf33 := hts (.fieldLink RX3 33 "StrikingWork" "savedCount" "I") (by decide +kernel)
  refine lv_aload_n hx hb dX3_init_0 rfl (lv_at hl 0 rfl) ?_
  refine k_objInit S hl.1 (hts (.methodLink RX3 1 objectInit) (by decide +kernel)) (hts (.instanceMethod objectInit) (by decide +kernel)) (hts (.code objectInit ⟨#[0xb1]⟩ 1 none) (List.mem_of_getElem? (i := 3) rfl)) dX3_init_1 (Nat.le_of_ble_eq_true rfl) (Nat.le_of_ble_eq_true rfl) ?_
  refine lv_aload_n hx hb dX3_init_4 rfl (lv_at hl 0 rfl) ?_
  refine k_new (ci := 0) (fs := [.null, .null, .null, .int 0, .int 0, .int 0, .int 0]) (C := RX0) (T := TX0) (N := 7) (c1 := 1) (s1 := 7) S G hiX0 tyX0 tyX0_ok (hts (.classLink RX3 7 RX0) (by decide +kernel)) (hts (.instantiable RX0 7) (by decide +kernel)) (hts (.initialized RX0) (by decide +kernel)) rfl (fun j hj => by rcases (show j = 0 ∨ j = 1 ∨ j = 2 ∨ j = 3 ∨ j = 4 ∨ j = 5 ∨ j = 6 by omega) with rfl | rfl | rfl | rfl | rfl | rfl | rfl <;> rfl) rfl rfl (Nat.le_of_ble_eq_true rfl) (Nat.le_of_ble_eq_true rfl) dX3_init_5 (fun q5x0 H G => ?_)
  have G := Gd.eq (ws1 := [(x, .inr (3, [.null, .null, .null, .null, .int 0])), (q5x0, .inr (0, [.null, .null, .null, .int 0, .int 0, .int 0, .int 0]))]) G rfl
  refine lv_dup hx hb dX3_init_8 rfl ?_
  refine k_callMN (c1 := 7) (s1 := 41) [(x, .inr (3, [.null, .null, .null, .null, .int 0]))] S G hN (c_X0_init l D cI cS q5x0) gX3_init_X0_init_n9 rfl hN.1 (hts (.initialized RX0) (by decide +kernel)) (hts (.instanceMethod yX0_init) (by decide +kernel)) rfl (by decide +kernel) ⟨⟨rfl, rfl⟩, Nat.le_of_ble_eq_true rfl, Nat.le_of_ble_eq_true rfl⟩ rfl hl.1 rfl (Nat.le_of_ble_eq_true rfl) rfl rfl ⟨Nat.le_of_ble_eq_true rfl, Nat.le_of_ble_eq_true rfl⟩ dX3_init_9 (fun b1 H locs G => ?_)
  have G := Gd.eq (ws1 := ((x, .inr (3, [.null, .null, .null, .null, .int 0])) :: stW cI (adF q5x0 b1) r00 e00 ([]))) G rfl
  refine k_putF (ws1 := ((x, .inr (3, [.ref q5x0, .null, .null, .null, .int 0])) :: stW cI (adF q5x0 b1) r00 e00 ([]))) S G hin 0 rfl rfl hiX3 tyX3 tyX3_ok nmX3 0 (by decide) hf10 rfl rfl rfl rfl (Nat.le_of_ble_eq_true rfl) dX3_init_12 rfl (fun H locs G => ?_)
  refine lv_aload_n hx hb dX3_init_15 rfl (lv_at hl 0 rfl) ?_
  refine lv_iconst (v := 5) hx hb dX3_init_16 (by decide) ?_
  refine k_newq (N := 5) (C := RX0) (c1 := 8) (s1 := 46) S G 1 rfl (hts (.classLink RX3 7 RX0) (by decide +kernel)) hN.2.2 (by decide) (by decide) (by decide) rfl rfl (Nat.le_of_ble_eq_true rfl) (Nat.le_of_ble_eq_true rfl) dX3_init_17 (fun q17x2 H G => ?_)
  have G := Gd.eq (ws1 := ((x, .inr (3, [.ref q5x0, .null, .null, .null, .int 0])) :: stW cI (adF q5x0 b1) r00 e00 ((q17x2, .inl (cS, 5, .inr (.inr (.inr (.inr (fun _ => none)))))) :: []))) G rfl
  refine k_putF (ws1 := ((x, .inr (3, [.ref q5x0, .ref q17x2, .null, .null, .int 0])) :: stW cI (adF q5x0 b1) r00 e00 ((q17x2, .inl (cS, 5, .inr (.inr (.inr (.inr (fun _ => none)))))) :: []))) S G hin 0 rfl rfl hiX3 tyX3 tyX3_ok nmX3 1 (by decide) hf16 rfl rfl rfl rfl (Nat.le_of_ble_eq_true rfl) dX3_init_20 rfl (fun H locs G => ?_)
  refine lv_aload_n hx hb dX3_init_23 rfl (lv_at hl 0 rfl) ?_
  refine k_new (ci := 2) (fs := [.int 0, .int 0, .int 0, .int 0, .int 0, .int 0]) (C := RX2) (T := TX2) (N := 6) (c1 := 9) (s1 := 52) S G hiX2 tyX2 tyX2_ok (hts (.classLink RX3 20 RX2) (by decide +kernel)) (hts (.instantiable RX2 6) (by decide +kernel)) (hts (.initialized RX2) (by decide +kernel)) rfl (fun j hj => by rcases (show j = 0 ∨ j = 1 ∨ j = 2 ∨ j = 3 ∨ j = 4 ∨ j = 5 by omega) with rfl | rfl | rfl | rfl | rfl | rfl <;> rfl) rfl rfl (Nat.le_of_ble_eq_true rfl) (Nat.le_of_ble_eq_true rfl) dX3_init_24 (fun q24x3 H G => ?_)
  have G := Gd.eq (ws1 := ((x, .inr (3, [.ref q5x0, .ref q17x2, .null, .null, .int 0])) :: stW cI (adF q5x0 b1) r00 e00 ((q17x2, .inl (cS, 5, .inr (.inr (.inr (.inr (fun _ => none)))))) :: (q24x3, .inr (2, [.int 0, .int 0, .int 0, .int 0, .int 0, .int 0])) :: []))) G rfl
  refine lv_dup hx hb dX3_init_27 rfl ?_
  refine lv_iconst (v := 0) hx hb dX3_init_28 (by decide) ?_
  refine k_callI (n := 1) (As := [.int 0]) (rest := [.ref q24x3, .ref x]) (ws1 := ((x, .inr (3, [.ref q5x0, .ref q17x2, .null, .null, .int 0])) :: stW cI (adF q5x0 b1) r00 e00 ((q17x2, .inl (cS, 5, .inr (.inr (.inr (.inr (fun _ => none)))))) :: (q24x3, .inr (2, [.int 0, .int 1, .int 1, .int 2000, .int 0, .int 0])) :: []))) S G (c_X2_init l D cI cS q24x3 0 0 0 0 0 0 0) gX3_init_X2_init rfl (hts (.initialized RX2) (by decide +kernel)) (hts (.methodLink RX3 22 yX2_init) (by decide +kernel)) (hts (.instanceMethod yX2_init) (by decide +kernel)) rfl (by decide +kernel) ⟨⟨rfl, rfl⟩, Nat.le_of_ble_eq_true rfl, Nat.le_of_ble_eq_true rfl⟩ [9] (by decide) rfl [q24x3] rfl rfl rfl hl.1 rfl (Nat.le_of_ble_eq_true rfl) ⟨Nat.le_of_ble_eq_true rfl, Nat.le_of_ble_eq_true rfl⟩ dX3_init_29 rfl (fun H locs G => ?_)
  refine k_putF (ws1 := ((x, .inr (3, [.ref q5x0, .ref q17x2, .ref q24x3, .null, .int 0])) :: stW cI (adF q5x0 b1) r00 e00 ((q17x2, .inl (cS, 5, .inr (.inr (.inr (.inr (fun _ => none)))))) :: (q24x3, .inr (2, [.int 0, .int 1, .int 1, .int 2000, .int 0, .int 0])) :: []))) S G hin 0 rfl rfl hiX3 tyX3 tyX3_ok nmX3 2 (by decide) hf25 rfl rfl rfl rfl (Nat.le_of_ble_eq_true rfl) dX3_init_32 rfl (fun H locs G => ?_)
  refine lv_aload_n hx hb dX3_init_35 rfl (lv_at hl 0 rfl) ?_
  refine lv_iconst (v := 3) hx hb dX3_init_36 (by decide) ?_
  refine k_newa (N := 3) (c1 := 10) (s1 := 55) S G 0 rfl (hts (.arrayClass .int) (by decide +kernel)) (by decide) (by decide) (by decide) rfl rfl (Nat.le_of_ble_eq_true rfl) (Nat.le_of_ble_eq_true rfl) dX3_init_37 (fun q37x4 H G => ?_)
  have G := Gd.eq (ws1 := ((x, .inr (3, [.ref q5x0, .ref q17x2, .ref q24x3, .null, .int 0])) :: stW cI (adF q5x0 b1) r00 e00 ((q17x2, .inl (cS, 5, .inr (.inr (.inr (.inr (fun _ => none)))))) :: (q24x3, .inr (2, [.int 0, .int 1, .int 1, .int 2000, .int 0, .int 0])) :: (q37x4, .inl (cI, 3, .inl (fun _ => 0))) :: []))) G rfl
  refine k_putF (ws1 := ((x, .inr (3, [.ref q5x0, .ref q17x2, .ref q24x3, .ref q37x4, .int 0])) :: stW cI (adF q5x0 b1) r00 e00 ((q17x2, .inl (cS, 5, .inr (.inr (.inr (.inr (fun _ => none)))))) :: (q24x3, .inr (2, [.int 0, .int 1, .int 1, .int 2000, .int 0, .int 0])) :: (q37x4, .inl (cI, 3, .inl (fun _ => 0))) :: []))) S G hin 0 rfl rfl hiX3 tyX3 tyX3_ok nmX3 3 (by decide) hf29 rfl rfl rfl rfl (Nat.le_of_ble_eq_true rfl) dX3_init_39 rfl (fun H locs G => ?_)
  refine lv_aload_n hx hb dX3_init_42 rfl (lv_at hl 0 rfl) ?_
  refine lv_iconst (v := 0) hx hb dX3_init_43 (by decide) ?_
  refine k_put (ws1 := ((x, .inr (3, [.ref q5x0, .ref q17x2, .ref q24x3, .ref q37x4, .int 0])) :: stW cI (adF q5x0 b1) r00 e00 ((q17x2, .inl (cS, 5, .inr (.inr (.inr (.inr (fun _ => none)))))) :: (q24x3, .inr (2, [.int 0, .int 1, .int 1, .int 2000, .int 0, .int 0])) :: (q37x4, .inl (cI, 3, .inl (fun _ => 0))) :: []))) S G 0 rfl rfl hiX3 tyX3 tyX3_ok nmX3 4 (by decide) hf33 rfl rfl rfl (Nat.le_of_ble_eq_true rfl) dX3_init_44 rfl (fun H locs G => ?_)
  refine lv_iconst (v := 0) hx hb dX3_init_47 (by decide) ?_
  refine lv_istore_n (lv' := [(1, .int 0), (0, .ref x)]) hx hb dX3_init_48 rfl hl (by decide) rfl (fun ls hl => ?_)
  refine lv_iload_n hx hb dX3_init_49 rfl (lv_at hl 0 rfl) ?_
  refine lv_iconst (v := 5) hx hb dX3_init_50 (by decide) ?_
  refine lv_icmp_ge (tgt := 73) hx hb dX3_init_51 (by decide) (fun c_1 => absurd c_1 (by decide)) (fun c_1 => ?_)
  refine lv_aload_n hx hb dX3_init_54 rfl (lv_at hl 1 rfl) ?_
  refine k_get (v := .ref q17x2) S G 0 rfl rfl hiX3 1 (by decide) hf16 rfl dX3_init_55 ?_
  refine lv_iload_n hx hb dX3_init_58 rfl (lv_at hl 0 rfl) ?_
  refine k_new (ci := 0) (fs := [.null, .null, .null, .int 0, .int 0, .int 0, .int 0]) (C := RX0) (T := TX0) (N := 7) (c1 := 11) (s1 := 62) S G hiX0 tyX0 tyX0_ok (hts (.classLink RX3 7 RX0) (by decide +kernel)) (hts (.instantiable RX0 7) (by decide +kernel)) (hts (.initialized RX0) (by decide +kernel)) rfl (fun j hj => by rcases (show j = 0 ∨ j = 1 ∨ j = 2 ∨ j = 3 ∨ j = 4 ∨ j = 5 ∨ j = 6 by omega) with rfl | rfl | rfl | rfl | rfl | rfl | rfl <;> rfl) rfl rfl (Nat.le_of_ble_eq_true rfl) (Nat.le_of_ble_eq_true rfl) dX3_init_59 (fun q59x5 H G => ?_)
  have G := Gd.eq (ws1 := ((x, .inr (3, [.ref q5x0, .ref q17x2, .ref q24x3, .ref q37x4, .int 0])) :: stW cI (adF q5x0 b1) r00 e00 ((q17x2, .inl (cS, 5, .inr (.inr (.inr (.inr (fun _ => none)))))) :: (q24x3, .inr (2, [.int 0, .int 1, .int 1, .int 2000, .int 0, .int 0])) :: (q37x4, .inl (cI, 3, .inl (fun _ => 0))) :: (q59x5, .inr (0, [.null, .null, .null, .int 0, .int 0, .int 0, .int 0])) :: []))) G rfl
  refine lv_dup hx hb dX3_init_62 rfl ?_
  refine k_callMN (c1 := 17) (s1 := 96) ((x, .inr (3, [.ref q5x0, .ref q17x2, .ref q24x3, .ref q37x4, .int 0])) :: stW cI (adF q5x0 b1) r00 e00 ((q17x2, .inl (cS, 5, .inr (.inr (.inr (.inr (fun _ => none)))))) :: (q24x3, .inr (2, [.int 0, .int 1, .int 1, .int 2000, .int 0, .int 0])) :: (q37x4, .inl (cI, 3, .inl (fun _ => 0))) :: [])) S G hN (c_X0_init l D cI cS q59x5) gX3_init_X0_init_n9 rfl hN.1 (hts (.initialized RX0) (by decide +kernel)) (hts (.instanceMethod yX0_init) (by decide +kernel)) rfl (by decide +kernel) ⟨⟨rfl, rfl⟩, Nat.le_of_ble_eq_true rfl, Nat.le_of_ble_eq_true rfl⟩ rfl hl.1 rfl (Nat.le_of_ble_eq_true rfl) rfl rfl ⟨Nat.le_of_ble_eq_true rfl, Nat.le_of_ble_eq_true rfl⟩ dX3_init_63 (fun b6 H locs G => ?_)
  have G := Gd.eq (ws1 := ((x, .inr (3, [.ref q5x0, .ref q17x2, .ref q24x3, .ref q37x4, .int 0])) :: stW cI (adF q5x0 b1) r00 e00 ((q17x2, .inl (cS, 5, .inr (.inr (.inr (.inr (fun _ => none)))))) :: (q24x3, .inr (2, [.int 0, .int 1, .int 1, .int 2000, .int 0, .int 0])) :: (q37x4, .inl (cI, 3, .inl (fun _ => 0))) :: stW cI (adF q59x5 b6) r00 e00 ([])))) G rfl
  refine k_aast (ws1 := ((x, .inr (3, [.ref q5x0, .ref q17x2, .ref q24x3, .ref q37x4, .int 0])) :: stW cI (adF q5x0 b1) r00 e00 ((q17x2, .inl (cS, 5, .inr (.inr (.inr (.inr (va_up (fun _ => none) 0 (some q59x5))))))) :: (q24x3, .inr (2, [.int 0, .int 1, .int 1, .int 2000, .int 0, .int 0])) :: (q37x4, .inl (cI, 3, .inl (fun _ => 0))) :: stW cI (adF q59x5 b6) r00 e00 ([])))) S G 8 1 11 0 rfl rfl rfl rfl (by unfold vp_in; decide) dX3_init_66 rfl (fun H locs G => ?_)
  refine lv_iinc (v := 1) (lv' := [(1, .int 1), (0, .ref x)]) hx hb dX3_init_67 hl (k := 0) rfl (by decide) (by decide) rfl (fun ls hl => ?_)
  refine lv_goto (tgt := 49) hx hb dX3_init_70 (by decide) ?_
  refine lv_iload_n hx hb dX3_init_49 rfl (lv_at hl 0 rfl) ?_
  refine lv_iconst (v := 5) hx hb dX3_init_50 (by decide) ?_
  refine lv_icmp_ge (tgt := 73) hx hb dX3_init_51 (by decide) (fun c_2 => absurd c_2 (by decide)) (fun c_2 => ?_)
  refine lv_aload_n hx hb dX3_init_54 rfl (lv_at hl 1 rfl) ?_
  refine k_get (v := .ref q17x2) S G 0 rfl rfl hiX3 1 (by decide) hf16 rfl dX3_init_55 ?_
  refine lv_iload_n hx hb dX3_init_58 rfl (lv_at hl 0 rfl) ?_
  refine k_new (ci := 0) (fs := [.null, .null, .null, .int 0, .int 0, .int 0, .int 0]) (C := RX0) (T := TX0) (N := 7) (c1 := 18) (s1 := 103) S G hiX0 tyX0 tyX0_ok (hts (.classLink RX3 7 RX0) (by decide +kernel)) (hts (.instantiable RX0 7) (by decide +kernel)) (hts (.initialized RX0) (by decide +kernel)) rfl (fun j hj => by rcases (show j = 0 ∨ j = 1 ∨ j = 2 ∨ j = 3 ∨ j = 4 ∨ j = 5 ∨ j = 6 by omega) with rfl | rfl | rfl | rfl | rfl | rfl | rfl <;> rfl) rfl rfl (Nat.le_of_ble_eq_true rfl) (Nat.le_of_ble_eq_true rfl) dX3_init_59 (fun q59x7 H G => ?_)
  have G := Gd.eq (ws1 := ((x, .inr (3, [.ref q5x0, .ref q17x2, .ref q24x3, .ref q37x4, .int 0])) :: stW cI (adF q5x0 b1) r00 e00 ((q17x2, .inl (cS, 5, .inr (.inr (.inr (.inr (va_up (fun _ => none) 0 (some q59x5))))))) :: (q24x3, .inr (2, [.int 0, .int 1, .int 1, .int 2000, .int 0, .int 0])) :: (q37x4, .inl (cI, 3, .inl (fun _ => 0))) :: stW cI (adF q59x5 b6) r00 e00 ((q59x7, .inr (0, [.null, .null, .null, .int 0, .int 0, .int 0, .int 0])) :: [])))) G rfl
  refine lv_dup hx hb dX3_init_62 rfl ?_
  refine k_callMN (c1 := 24) (s1 := 137) ((x, .inr (3, [.ref q5x0, .ref q17x2, .ref q24x3, .ref q37x4, .int 0])) :: stW cI (adF q5x0 b1) r00 e00 ((q17x2, .inl (cS, 5, .inr (.inr (.inr (.inr (va_up (fun _ => none) 0 (some q59x5))))))) :: (q24x3, .inr (2, [.int 0, .int 1, .int 1, .int 2000, .int 0, .int 0])) :: (q37x4, .inl (cI, 3, .inl (fun _ => 0))) :: stW cI (adF q59x5 b6) r00 e00 ([]))) S G hN (c_X0_init l D cI cS q59x7) gX3_init_X0_init_n9 rfl hN.1 (hts (.initialized RX0) (by decide +kernel)) (hts (.instanceMethod yX0_init) (by decide +kernel)) rfl (by decide +kernel) ⟨⟨rfl, rfl⟩, Nat.le_of_ble_eq_true rfl, Nat.le_of_ble_eq_true rfl⟩ rfl hl.1 rfl (Nat.le_of_ble_eq_true rfl) rfl rfl ⟨Nat.le_of_ble_eq_true rfl, Nat.le_of_ble_eq_true rfl⟩ dX3_init_63 (fun b8 H locs G => ?_)
  have G := Gd.eq (ws1 := ((x, .inr (3, [.ref q5x0, .ref q17x2, .ref q24x3, .ref q37x4, .int 0])) :: stW cI (adF q5x0 b1) r00 e00 ((q17x2, .inl (cS, 5, .inr (.inr (.inr (.inr (va_up (fun _ => none) 0 (some q59x5))))))) :: (q24x3, .inr (2, [.int 0, .int 1, .int 1, .int 2000, .int 0, .int 0])) :: (q37x4, .inl (cI, 3, .inl (fun _ => 0))) :: stW cI (adF q59x5 b6) r00 e00 (stW cI (adF q59x7 b8) r00 e00 ([]))))) G rfl
  refine k_aast (ws1 := ((x, .inr (3, [.ref q5x0, .ref q17x2, .ref q24x3, .ref q37x4, .int 0])) :: stW cI (adF q5x0 b1) r00 e00 ((q17x2, .inl (cS, 5, .inr (.inr (.inr (.inr (va_up (va_up (fun _ => none) 0 (some q59x5)) 1 (some q59x7))))))) :: (q24x3, .inr (2, [.int 0, .int 1, .int 1, .int 2000, .int 0, .int 0])) :: (q37x4, .inl (cI, 3, .inl (fun _ => 0))) :: stW cI (adF q59x5 b6) r00 e00 (stW cI (adF q59x7 b8) r00 e00 ([]))))) S G 8 1 18 0 rfl rfl rfl rfl (by unfold vp_in; decide) dX3_init_66 rfl (fun H locs G => ?_)
  refine lv_iinc (v := 2) (lv' := [(1, .int 2), (0, .ref x)]) hx hb dX3_init_67 hl (k := 0) rfl (by decide) (by decide) rfl (fun ls hl => ?_)
  refine lv_goto (tgt := 49) hx hb dX3_init_70 (by decide) ?_
  refine lv_iload_n hx hb dX3_init_49 rfl (lv_at hl 0 rfl) ?_
  refine lv_iconst (v := 5) hx hb dX3_init_50 (by decide) ?_
  refine lv_icmp_ge (tgt := 73) hx hb dX3_init_51 (by decide) (fun c_3 => absurd c_3 (by decide)) (fun c_3 => ?_)
  refine lv_aload_n hx hb dX3_init_54 rfl (lv_at hl 1 rfl) ?_
  refine k_get (v := .ref q17x2) S G 0 rfl rfl hiX3 1 (by decide) hf16 rfl dX3_init_55 ?_
  refine lv_iload_n hx hb dX3_init_58 rfl (lv_at hl 0 rfl) ?_
  refine k_new (ci := 0) (fs := [.null, .null, .null, .int 0, .int 0, .int 0, .int 0]) (C := RX0) (T := TX0) (N := 7) (c1 := 25) (s1 := 144) S G hiX0 tyX0 tyX0_ok (hts (.classLink RX3 7 RX0) (by decide +kernel)) (hts (.instantiable RX0 7) (by decide +kernel)) (hts (.initialized RX0) (by decide +kernel)) rfl (fun j hj => by rcases (show j = 0 ∨ j = 1 ∨ j = 2 ∨ j = 3 ∨ j = 4 ∨ j = 5 ∨ j = 6 by omega) with rfl | rfl | rfl | rfl | rfl | rfl | rfl <;> rfl) rfl rfl (Nat.le_of_ble_eq_true rfl) (Nat.le_of_ble_eq_true rfl) dX3_init_59 (fun q59x9 H G => ?_)
  have G := Gd.eq (ws1 := ((x, .inr (3, [.ref q5x0, .ref q17x2, .ref q24x3, .ref q37x4, .int 0])) :: stW cI (adF q5x0 b1) r00 e00 ((q17x2, .inl (cS, 5, .inr (.inr (.inr (.inr (va_up (va_up (fun _ => none) 0 (some q59x5)) 1 (some q59x7))))))) :: (q24x3, .inr (2, [.int 0, .int 1, .int 1, .int 2000, .int 0, .int 0])) :: (q37x4, .inl (cI, 3, .inl (fun _ => 0))) :: stW cI (adF q59x5 b6) r00 e00 (stW cI (adF q59x7 b8) r00 e00 ((q59x9, .inr (0, [.null, .null, .null, .int 0, .int 0, .int 0, .int 0])) :: []))))) G rfl
  refine lv_dup hx hb dX3_init_62 rfl ?_
  refine k_callMN (c1 := 31) (s1 := 178) ((x, .inr (3, [.ref q5x0, .ref q17x2, .ref q24x3, .ref q37x4, .int 0])) :: stW cI (adF q5x0 b1) r00 e00 ((q17x2, .inl (cS, 5, .inr (.inr (.inr (.inr (va_up (va_up (fun _ => none) 0 (some q59x5)) 1 (some q59x7))))))) :: (q24x3, .inr (2, [.int 0, .int 1, .int 1, .int 2000, .int 0, .int 0])) :: (q37x4, .inl (cI, 3, .inl (fun _ => 0))) :: stW cI (adF q59x5 b6) r00 e00 (stW cI (adF q59x7 b8) r00 e00 ([])))) S G hN (c_X0_init l D cI cS q59x9) gX3_init_X0_init_n9 rfl hN.1 (hts (.initialized RX0) (by decide +kernel)) (hts (.instanceMethod yX0_init) (by decide +kernel)) rfl (by decide +kernel) ⟨⟨rfl, rfl⟩, Nat.le_of_ble_eq_true rfl, Nat.le_of_ble_eq_true rfl⟩ rfl hl.1 rfl (Nat.le_of_ble_eq_true rfl) rfl rfl ⟨Nat.le_of_ble_eq_true rfl, Nat.le_of_ble_eq_true rfl⟩ dX3_init_63 (fun b10 H locs G => ?_)
  have G := Gd.eq (ws1 := ((x, .inr (3, [.ref q5x0, .ref q17x2, .ref q24x3, .ref q37x4, .int 0])) :: stW cI (adF q5x0 b1) r00 e00 ((q17x2, .inl (cS, 5, .inr (.inr (.inr (.inr (va_up (va_up (fun _ => none) 0 (some q59x5)) 1 (some q59x7))))))) :: (q24x3, .inr (2, [.int 0, .int 1, .int 1, .int 2000, .int 0, .int 0])) :: (q37x4, .inl (cI, 3, .inl (fun _ => 0))) :: stW cI (adF q59x5 b6) r00 e00 (stW cI (adF q59x7 b8) r00 e00 (stW cI (adF q59x9 b10) r00 e00 ([])))))) G rfl
  refine k_aast (ws1 := ((x, .inr (3, [.ref q5x0, .ref q17x2, .ref q24x3, .ref q37x4, .int 0])) :: stW cI (adF q5x0 b1) r00 e00 ((q17x2, .inl (cS, 5, .inr (.inr (.inr (.inr (va_up (va_up (va_up (fun _ => none) 0 (some q59x5)) 1 (some q59x7)) 2 (some q59x9))))))) :: (q24x3, .inr (2, [.int 0, .int 1, .int 1, .int 2000, .int 0, .int 0])) :: (q37x4, .inl (cI, 3, .inl (fun _ => 0))) :: stW cI (adF q59x5 b6) r00 e00 (stW cI (adF q59x7 b8) r00 e00 (stW cI (adF q59x9 b10) r00 e00 ([])))))) S G 8 1 25 0 rfl rfl rfl rfl (by unfold vp_in; decide) dX3_init_66 rfl (fun H locs G => ?_)
  refine lv_iinc (v := 3) (lv' := [(1, .int 3), (0, .ref x)]) hx hb dX3_init_67 hl (k := 0) rfl (by decide) (by decide) rfl (fun ls hl => ?_)
  refine lv_goto (tgt := 49) hx hb dX3_init_70 (by decide) ?_
  refine lv_iload_n hx hb dX3_init_49 rfl (lv_at hl 0 rfl) ?_
  refine lv_iconst (v := 5) hx hb dX3_init_50 (by decide) ?_
  refine lv_icmp_ge (tgt := 73) hx hb dX3_init_51 (by decide) (fun c_4 => absurd c_4 (by decide)) (fun c_4 => ?_)
  refine lv_aload_n hx hb dX3_init_54 rfl (lv_at hl 1 rfl) ?_
  refine k_get (v := .ref q17x2) S G 0 rfl rfl hiX3 1 (by decide) hf16 rfl dX3_init_55 ?_
  refine lv_iload_n hx hb dX3_init_58 rfl (lv_at hl 0 rfl) ?_
  refine k_new (ci := 0) (fs := [.null, .null, .null, .int 0, .int 0, .int 0, .int 0]) (C := RX0) (T := TX0) (N := 7) (c1 := 32) (s1 := 185) S G hiX0 tyX0 tyX0_ok (hts (.classLink RX3 7 RX0) (by decide +kernel)) (hts (.instantiable RX0 7) (by decide +kernel)) (hts (.initialized RX0) (by decide +kernel)) rfl (fun j hj => by rcases (show j = 0 ∨ j = 1 ∨ j = 2 ∨ j = 3 ∨ j = 4 ∨ j = 5 ∨ j = 6 by omega) with rfl | rfl | rfl | rfl | rfl | rfl | rfl <;> rfl) rfl rfl (Nat.le_of_ble_eq_true rfl) (Nat.le_of_ble_eq_true rfl) dX3_init_59 (fun q59x11 H G => ?_)
  have G := Gd.eq (ws1 := ((x, .inr (3, [.ref q5x0, .ref q17x2, .ref q24x3, .ref q37x4, .int 0])) :: stW cI (adF q5x0 b1) r00 e00 ((q17x2, .inl (cS, 5, .inr (.inr (.inr (.inr (va_up (va_up (va_up (fun _ => none) 0 (some q59x5)) 1 (some q59x7)) 2 (some q59x9))))))) :: (q24x3, .inr (2, [.int 0, .int 1, .int 1, .int 2000, .int 0, .int 0])) :: (q37x4, .inl (cI, 3, .inl (fun _ => 0))) :: stW cI (adF q59x5 b6) r00 e00 (stW cI (adF q59x7 b8) r00 e00 (stW cI (adF q59x9 b10) r00 e00 ((q59x11, .inr (0, [.null, .null, .null, .int 0, .int 0, .int 0, .int 0])) :: [])))))) G rfl
  refine lv_dup hx hb dX3_init_62 rfl ?_
  refine k_callMN (c1 := 38) (s1 := 219) ((x, .inr (3, [.ref q5x0, .ref q17x2, .ref q24x3, .ref q37x4, .int 0])) :: stW cI (adF q5x0 b1) r00 e00 ((q17x2, .inl (cS, 5, .inr (.inr (.inr (.inr (va_up (va_up (va_up (fun _ => none) 0 (some q59x5)) 1 (some q59x7)) 2 (some q59x9))))))) :: (q24x3, .inr (2, [.int 0, .int 1, .int 1, .int 2000, .int 0, .int 0])) :: (q37x4, .inl (cI, 3, .inl (fun _ => 0))) :: stW cI (adF q59x5 b6) r00 e00 (stW cI (adF q59x7 b8) r00 e00 (stW cI (adF q59x9 b10) r00 e00 ([]))))) S G hN (c_X0_init l D cI cS q59x11) gX3_init_X0_init_n9 rfl hN.1 (hts (.initialized RX0) (by decide +kernel)) (hts (.instanceMethod yX0_init) (by decide +kernel)) rfl (by decide +kernel) ⟨⟨rfl, rfl⟩, Nat.le_of_ble_eq_true rfl, Nat.le_of_ble_eq_true rfl⟩ rfl hl.1 rfl (Nat.le_of_ble_eq_true rfl) rfl rfl ⟨Nat.le_of_ble_eq_true rfl, Nat.le_of_ble_eq_true rfl⟩ dX3_init_63 (fun b12 H locs G => ?_)
  have G := Gd.eq (ws1 := ((x, .inr (3, [.ref q5x0, .ref q17x2, .ref q24x3, .ref q37x4, .int 0])) :: stW cI (adF q5x0 b1) r00 e00 ((q17x2, .inl (cS, 5, .inr (.inr (.inr (.inr (va_up (va_up (va_up (fun _ => none) 0 (some q59x5)) 1 (some q59x7)) 2 (some q59x9))))))) :: (q24x3, .inr (2, [.int 0, .int 1, .int 1, .int 2000, .int 0, .int 0])) :: (q37x4, .inl (cI, 3, .inl (fun _ => 0))) :: stW cI (adF q59x5 b6) r00 e00 (stW cI (adF q59x7 b8) r00 e00 (stW cI (adF q59x9 b10) r00 e00 (stW cI (adF q59x11 b12) r00 e00 ([]))))))) G rfl
  refine k_aast (ws1 := ((x, .inr (3, [.ref q5x0, .ref q17x2, .ref q24x3, .ref q37x4, .int 0])) :: stW cI (adF q5x0 b1) r00 e00 ((q17x2, .inl (cS, 5, .inr (.inr (.inr (.inr (va_up (va_up (va_up (va_up (fun _ => none) 0 (some q59x5)) 1 (some q59x7)) 2 (some q59x9)) 3 (some q59x11))))))) :: (q24x3, .inr (2, [.int 0, .int 1, .int 1, .int 2000, .int 0, .int 0])) :: (q37x4, .inl (cI, 3, .inl (fun _ => 0))) :: stW cI (adF q59x5 b6) r00 e00 (stW cI (adF q59x7 b8) r00 e00 (stW cI (adF q59x9 b10) r00 e00 (stW cI (adF q59x11 b12) r00 e00 ([]))))))) S G 8 1 32 0 rfl rfl rfl rfl (by unfold vp_in; decide) dX3_init_66 rfl (fun H locs G => ?_)
  refine lv_iinc (v := 4) (lv' := [(1, .int 4), (0, .ref x)]) hx hb dX3_init_67 hl (k := 0) rfl (by decide) (by decide) rfl (fun ls hl => ?_)
  refine lv_goto (tgt := 49) hx hb dX3_init_70 (by decide) ?_
  refine lv_iload_n hx hb dX3_init_49 rfl (lv_at hl 0 rfl) ?_
  refine lv_iconst (v := 5) hx hb dX3_init_50 (by decide) ?_
  refine lv_icmp_ge (tgt := 73) hx hb dX3_init_51 (by decide) (fun c_5 => absurd c_5 (by decide)) (fun c_5 => ?_)
  refine lv_aload_n hx hb dX3_init_54 rfl (lv_at hl 1 rfl) ?_
  refine k_get (v := .ref q17x2) S G 0 rfl rfl hiX3 1 (by decide) hf16 rfl dX3_init_55 ?_
  refine lv_iload_n hx hb dX3_init_58 rfl (lv_at hl 0 rfl) ?_
  refine k_new (ci := 0) (fs := [.null, .null, .null, .int 0, .int 0, .int 0, .int 0]) (C := RX0) (T := TX0) (N := 7) (c1 := 39) (s1 := 226) S G hiX0 tyX0 tyX0_ok (hts (.classLink RX3 7 RX0) (by decide +kernel)) (hts (.instantiable RX0 7) (by decide +kernel)) (hts (.initialized RX0) (by decide +kernel)) rfl (fun j hj => by rcases (show j = 0 ∨ j = 1 ∨ j = 2 ∨ j = 3 ∨ j = 4 ∨ j = 5 ∨ j = 6 by omega) with rfl | rfl | rfl | rfl | rfl | rfl | rfl <;> rfl) rfl rfl (Nat.le_of_ble_eq_true rfl) (Nat.le_of_ble_eq_true rfl) dX3_init_59 (fun q59x13 H G => ?_)
  have G := Gd.eq (ws1 := ((x, .inr (3, [.ref q5x0, .ref q17x2, .ref q24x3, .ref q37x4, .int 0])) :: stW cI (adF q5x0 b1) r00 e00 ((q17x2, .inl (cS, 5, .inr (.inr (.inr (.inr (va_up (va_up (va_up (va_up (fun _ => none) 0 (some q59x5)) 1 (some q59x7)) 2 (some q59x9)) 3 (some q59x11))))))) :: (q24x3, .inr (2, [.int 0, .int 1, .int 1, .int 2000, .int 0, .int 0])) :: (q37x4, .inl (cI, 3, .inl (fun _ => 0))) :: stW cI (adF q59x5 b6) r00 e00 (stW cI (adF q59x7 b8) r00 e00 (stW cI (adF q59x9 b10) r00 e00 (stW cI (adF q59x11 b12) r00 e00 ((q59x13, .inr (0, [.null, .null, .null, .int 0, .int 0, .int 0, .int 0])) :: []))))))) G rfl
  refine lv_dup hx hb dX3_init_62 rfl ?_
  refine k_callMN (c1 := 45) (s1 := 260) ((x, .inr (3, [.ref q5x0, .ref q17x2, .ref q24x3, .ref q37x4, .int 0])) :: stW cI (adF q5x0 b1) r00 e00 ((q17x2, .inl (cS, 5, .inr (.inr (.inr (.inr (va_up (va_up (va_up (va_up (fun _ => none) 0 (some q59x5)) 1 (some q59x7)) 2 (some q59x9)) 3 (some q59x11))))))) :: (q24x3, .inr (2, [.int 0, .int 1, .int 1, .int 2000, .int 0, .int 0])) :: (q37x4, .inl (cI, 3, .inl (fun _ => 0))) :: stW cI (adF q59x5 b6) r00 e00 (stW cI (adF q59x7 b8) r00 e00 (stW cI (adF q59x9 b10) r00 e00 (stW cI (adF q59x11 b12) r00 e00 ([])))))) S G hN (c_X0_init l D cI cS q59x13) gX3_init_X0_init_n9 rfl hN.1 (hts (.initialized RX0) (by decide +kernel)) (hts (.instanceMethod yX0_init) (by decide +kernel)) rfl (by decide +kernel) ⟨⟨rfl, rfl⟩, Nat.le_of_ble_eq_true rfl, Nat.le_of_ble_eq_true rfl⟩ rfl hl.1 rfl (Nat.le_of_ble_eq_true rfl) rfl rfl ⟨Nat.le_of_ble_eq_true rfl, Nat.le_of_ble_eq_true rfl⟩ dX3_init_63 (fun b14 H locs G => ?_)
  have G := Gd.eq (ws1 := ((x, .inr (3, [.ref q5x0, .ref q17x2, .ref q24x3, .ref q37x4, .int 0])) :: stW cI (adF q5x0 b1) r00 e00 ((q17x2, .inl (cS, 5, .inr (.inr (.inr (.inr (va_up (va_up (va_up (va_up (fun _ => none) 0 (some q59x5)) 1 (some q59x7)) 2 (some q59x9)) 3 (some q59x11))))))) :: (q24x3, .inr (2, [.int 0, .int 1, .int 1, .int 2000, .int 0, .int 0])) :: (q37x4, .inl (cI, 3, .inl (fun _ => 0))) :: stW cI (adF q59x5 b6) r00 e00 (stW cI (adF q59x7 b8) r00 e00 (stW cI (adF q59x9 b10) r00 e00 (stW cI (adF q59x11 b12) r00 e00 (stW cI (adF q59x13 b14) r00 e00 ([])))))))) G rfl
  refine k_aast (ws1 := ((x, .inr (3, [.ref q5x0, .ref q17x2, .ref q24x3, .ref q37x4, .int 0])) :: stW cI (adF q5x0 b1) r00 e00 ((q17x2, .inl (cS, 5, .inr (.inr (.inr (.inr (va_up (va_up (va_up (va_up (va_up (fun _ => none) 0 (some q59x5)) 1 (some q59x7)) 2 (some q59x9)) 3 (some q59x11)) 4 (some q59x13))))))) :: (q24x3, .inr (2, [.int 0, .int 1, .int 1, .int 2000, .int 0, .int 0])) :: (q37x4, .inl (cI, 3, .inl (fun _ => 0))) :: stW cI (adF q59x5 b6) r00 e00 (stW cI (adF q59x7 b8) r00 e00 (stW cI (adF q59x9 b10) r00 e00 (stW cI (adF q59x11 b12) r00 e00 (stW cI (adF q59x13 b14) r00 e00 ([])))))))) S G 8 1 39 0 rfl rfl rfl rfl (by unfold vp_in; decide) dX3_init_66 rfl (fun H locs G => ?_)
  refine lv_iinc (v := 5) (lv' := [(1, .int 5), (0, .ref x)]) hx hb dX3_init_67 hl (k := 0) rfl (by decide) (by decide) rfl (fun ls hl => ?_)
  refine lv_goto (tgt := 49) hx hb dX3_init_70 (by decide) ?_
  refine lv_iload_n hx hb dX3_init_49 rfl (lv_at hl 0 rfl) ?_
  refine lv_iconst (v := 5) hx hb dX3_init_50 (by decide) ?_
  refine lv_icmp_ge (tgt := 73) hx hb dX3_init_51 (by decide) (fun c_6 => ?_) (fun c_6 => absurd c_6 (by decide))
  have G := Gd.arrq (ws1 := ((x, .inr (3, [.ref q5x0, .ref q17x2, .ref q24x3, .ref q37x4, .int 0])) :: stW cI (adF q5x0 b1) r00 e00 ((q17x2, .inl (cS, 5, .inr (.inr (.inr (.inr (fun i => some ((fun i k => (fun j => if j = 0 then q17x2 else if j = 1 then q24x3 else if j = 2 then q37x4 else if j < 10 then (adF q5x0 b1) (j - 3) else if j < 17 then (adF q59x5 b6) (j - 10) else if j < 24 then (adF q59x7 b8) (j - 17) else if j < 31 then (adF q59x9 b10) (j - 24) else if j < 38 then (adF q59x11 b12) (j - 31) else (adF q59x13 b14) (j - 38)) (10 + 7 * i + k)) i 0))))))) :: (q24x3, .inr (2, [.int 0, .int 1, .int 1, .int 2000, .int 0, .int 0])) :: (q37x4, .inl (cI, 3, .inl (fun _ => 0))) :: stW cI (adF q59x5 b6) r00 e00 (stW cI (adF q59x7 b8) r00 e00 (stW cI (adF q59x9 b10) r00 e00 (stW cI (adF q59x11 b12) r00 e00 (stW cI (adF q59x13 b14) r00 e00 ([])))))))) G 8 (fun i => some ((fun i k => (fun j => if j = 0 then q17x2 else if j = 1 then q24x3 else if j = 2 then q37x4 else if j < 10 then (adF q5x0 b1) (j - 3) else if j < 17 then (adF q59x5 b6) (j - 10) else if j < 24 then (adF q59x7 b8) (j - 17) else if j < 31 then (adF q59x9 b10) (j - 24) else if j < 38 then (adF q59x11 b12) (j - 31) else (adF q59x13 b14) (j - 38)) (10 + 7 * i + k)) i 0)) rfl (fun i hi => by rcases (show i = 0 ∨ i = 1 ∨ i = 2 ∨ i = 3 ∨ i = 4 by omega) with rfl | rfl | rfl | rfl | rfl <;> rfl) rfl
  have G := Gd.sub (ws1 := ((x, .inr (3, [.ref q5x0, .ref q17x2, .ref q24x3, .ref q37x4, .int 0])) :: (q37x4, .inl (cI, 3, .inl (fun _ => 0))) :: stW cI (adF q5x0 b1) r00 e00 ((q24x3, .inr (2, [.int 0, .int 1, .int 1, .int 2000, .int 0, .int 0])) :: (q17x2, .inl (cS, 5, .inr (.inr (.inr (.inr (fun i => some ((fun i k => (fun j => if j = 0 then q17x2 else if j = 1 then q24x3 else if j = 2 then q37x4 else if j < 10 then (adF q5x0 b1) (j - 3) else if j < 17 then (adF q59x5 b6) (j - 10) else if j < 24 then (adF q59x7 b8) (j - 17) else if j < 31 then (adF q59x9 b10) (j - 24) else if j < 38 then (adF q59x11 b12) (j - 31) else (adF q59x13 b14) (j - 38)) (10 + 7 * i + k)) i 0))))))) :: stW cI (adF q59x5 b6) r00 e00 (stW cI (adF q59x7 b8) r00 e00 (stW cI (adF q59x9 b10) r00 e00 (stW cI (adF q59x11 b12) r00 e00 (stW cI (adF q59x13 b14) r00 e00 ([])))))))) G [0, 10, 1, 2, 3, 4, 5, 6, 7, 9, 8, 11, 12, 13, 14, 15, 16, 17, 18, 19, 20, 21, 22, 23, 24, 25, 26, 27, 28, 29, 30, 31, 32, 33, 34, 35, 36, 37, 38, 39, 40, 41, 42, 43, 44, 45] (by decide +kernel) rfl
  exact k_nret (fun j => if j = 0 then q17x2 else if j = 1 then q24x3 else if j = 2 then q37x4 else if j < 10 then (adF q5x0 b1) (j - 3) else if j < 17 then (adF q59x5 b6) (j - 10) else if j < 24 then (adF q59x7 b8) (j - 17) else if j < 31 then (adF q59x9 b10) (j - 24) else if j < 38 then (adF q59x11 b12) (j - 31) else (adF q59x13 b14) (j - 38)) S G hr hlk dX3_init_73 rfl
