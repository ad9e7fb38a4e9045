/-- n minutes of the model -/
def runM : Nat → (Nat → Int32) → Int32 → Int32 × (Nat → Int32)
  | 0, f, sm => (sm, f)
  | n + 1, f, sm => runM n (s_X4_tick f).2 (sm + (s_X4_tick f).1)
set_option maxHeartbeats 4000000 in
set_option maxRecDepth 100000 in
theorem lp_X4_run (l : Launch) (D : va_G) (cI cS : ClassId) (y : Nat) (nw : Nat) (ad : Nat) (pa : Nat) (eA : Nat) (sn : Int32) (hs : Int64) (g : Nat → Int32) (pf : Nat → Int32) (z : Nat → Int32) (q : Int32) {p : Program} {ev : Env} {s : State} {m : MethodId} {args : Array Value} {below : List Frame} {meth : Method} {c : Code} {A : Nat → Prop} {Q : State → Prop} (S : CallFix p m c cX4_run 4 s args wsX4_run RX4)  :
    ∀ (n k : Nat) (f : Nat → Int32) (sm : Int32), k + n = q.toNatClampNeg → (∀ (H : Heap) (locs : List Loc) (ls : Array Slot), Gd D (tyL cI cS) A s.heap s [(y, .inr (4, [.ref nw, .ref ad, .ref pa, .int sn, .ref eA, .long hs])), (nw, .inl (cI, 39, .inl ((runM n f sm).2))), (ad, .inl (cI, 39, .inl g)), (pa, .inl (cI, 195, .inl pf)), (eA, .inl (cI, 3, .inl z))] H locs → lv_has ls 4 [(2, .int (runM n f sm).1)] → W p l ev ({ frames := 6, cells := 0, slots := 0, locals := 250 }) s m args below meth c H locs 0 0 Q (F0 m 44 ls [])) → ∀ (H : Heap) (locs : List Loc) (ls : Array Slot), Gd D (tyL cI cS) A s.heap s [(y, .inr (4, [.ref nw, .ref ad, .ref pa, .int sn, .ref eA, .long hs])), (nw, .inl (cI, 39, .inl f)), (ad, .inl (cI, 39, .inl g)), (pa, .inl (cI, 195, .inl pf)), (eA, .inl (cI, 3, .inl z))] H locs → lv_has ls 4 [(3, .int (nI k)), (2, .int sm), (1, .int q), (0, .ref y)] → W p l ev ({ frames := 6, cells := 0, slots := 0, locals := 250 }) s m args below meth c H locs 0 0 Q (F0 m 26 ls []) := by
  have hx := S.1
  have hb := S.2.1
  have hown : s.vm.findClass RX4 = some m.cls := S.2.2.2.1
  have hts := S.2.2.2.2
  intro n
  induction n with
  | zero =>
    intro k f sm hin hk H locs ls G hl
    refine lv_iload_n hx hb dX4_run_26 rfl (lv_at hl 0 rfl) ?_
    refine lv_iload_n hx hb dX4_run_27 rfl (lv_at hl 2 rfl) ?_
    refine lv_icmp_ge (tgt := 44) hx hb dX4_run_28 (by decide) (fun c_1 => ?_) (fun c_1 => absurd (show q ≤ nI k from (cl_le (by have := cl_lt q; omega)).mpr (by omega)) c_1)
    exact hk _ _ ls G (lv_sub hl [1] rfl)
  | succ n ih =>
    intro k f sm hin hk H locs ls G hl
    refine lv_iload_n hx hb dX4_run_26 rfl (lv_at hl 0 rfl) ?_
    refine lv_iload_n hx hb dX4_run_27 rfl (lv_at hl 2 rfl) ?_
    refine lv_icmp_ge (tgt := 44) hx hb dX4_run_28 (by decide) (fun c_1 => absurd c_1 (show ¬ q ≤ nI k from fun z => absurd ((cl_le (by have := cl_lt q; omega)).mp z) (by omega))) (fun c_1 => ?_)
    refine lv_iload_n hx hb dX4_run_31 rfl (lv_at hl 1 rfl) ?_
    refine lv_aload_n hx hb dX4_run_32 rfl (lv_at hl 3 rfl) ?_
    refine k_callV (n := 0) (As := []) (rest := [.int sm]) (st1 := [.int ((s_X4_tick f).1), .int sm]) (ws1 := [(y, .inr (4, [.ref nw, .ref ad, .ref pa, .int sn, .ref eA, .long hs])), (nw, .inl (cI, 39, .inl ((s_X4_tick f).2))), (ad, .inl (cI, 39, .inl g)), (pa, .inl (cI, 195, .inl pf)), (eA, .inl (cI, 3, .inl z))]) S G (c_X4_tick l D cI cS y nw ad pa eA sn hs f g pf z) gX4_run_X4_tick rfl (by decide +kernel) ⟨⟨rfl, rfl⟩, Nat.le_of_ble_eq_true rfl, Nat.le_of_ble_eq_true rfl⟩ [0, 1, 2, 3, 4] (by decide) rfl [y, nw, ad, pa, eA] rfl rfl 0 rfl rfl rfl hl.1 rfl (Nat.le_of_ble_eq_true rfl) ⟨Nat.zero_le _, Nat.zero_le _⟩ dX4_run_33 rfl rfl (fun H locs G => ?_)
    generalize hu1 : (s_X4_tick f) = u1 at G ⊢
    refine lv_iadd hx hb dX4_run_36 ?_
    refine lv_istore_n (lv' := [(2, .int (sm + u1.1)), (3, .int (nI k)), (1, .int q), (0, .ref y)]) hx hb dX4_run_37 rfl hl (by decide) rfl (fun ls hl => ?_)
    refine lv_iinc (v := (nI (k + 1))) (lv' := [(3, .int (nI (k + 1))), (2, .int (sm + u1.1)), (1, .int q), (0, .ref y)]) hx hb dX4_run_38 hl (k := 1) rfl (nI_1 k) (by decide) rfl (fun ls hl => ?_)
    refine lv_goto (tgt := 26) hx hb dX4_run_41 (by decide) ?_
    have eL : runM (n + 1) f sm = runM n u1.2 (sm + u1.1) := by rw [runM, hu1]
    rw [eL] at hk
    exact ih (k + 1) u1.2 (sm + u1.1) (by omega) hk _ _ ls G (lv_sub hl [0, 1, 2, 3] rfl)
def s_X4_run (sn : Int32) (f : Nat → Int32) (pf : Nat → Int32) (z : Nat → Int32) (q : Int32) : Int32 × Int32 × (Nat → Int32) × (Nat → Int32) × (Nat → Int32) := (if (s_X4_in q 0 1440) = 0 then ((-2), sn, f, pf, (upd z 0 ((z 0) + 1))) else ((runM q.toNatClampNeg f 0).1, (sSc sn), (runM q.toNatClampNeg f 0).2, (mSp sn pf f), z))
set_option maxHeartbeats 4000000 in
set_option maxRecDepth 100000 in
theorem c_X4_run (l : Launch) (D : va_G) (cI cS : ClassId) (y : Nat) (nw : Nat) (ad : Nat) (pa : Nat) (eA : Nat) (sn : Int32) (hs : Int64) (f : Nat → Int32) (g : Nat → Int32) (pf : Nat → Int32) (z : Nat → Int32) (q : Int32) (hsn : scOk sn) : Ct l yX4_run wsX4_run ({ frames := 6, cells := 0, slots := 0, locals := 250 }) D (tyL cI cS) [.ref y, .int q] [(y, .inr (4, [.ref nw, .ref ad, .ref pa, .int sn, .ref eA, .long hs])), (nw, .inl (cI, 39, .inl f)), (ad, .inl (cI, 39, .inl g)), (pa, .inl (cI, 195, .inl pf)), (eA, .inl (cI, 3, .inl z))] (some (.int ((s_X4_run sn f pf z q).1))) [(y, .inr (4, [.ref nw, .ref ad, .ref pa, .int ((s_X4_run sn f pf z q).2.1), .ref eA, .long hs])), (nw, .inl (cI, 39, .inl ((s_X4_run sn f pf z q).2.2.1))), (ad, .inl (cI, 39, .inl g)), (pa, .inl (cI, 195, .inl ((s_X4_run sn f pf z q).2.2.2.1))), (eA, .inl (cI, 3, .inl ((s_X4_run sn f pf z q).2.2.2.2)))] := by
  refine Ct.of (cc := cX4_run) (maxL := 4) (ret := (some .int)) (by decide) rfl (Nat.le_of_ble_eq_true rfl) ?_
  intro p ev s m args below meth c A ls S hr hlk G hl
  have hx := S.1
  have hb := S.2.1
  have hown : s.vm.findClass RX4 = some m.cls := S.2.2.2.1
  have hts := S.2.2.2.2
  have hl : lv_has ls 4 [(0, .ref y), (1, .int q)] := hl
  refine lv_iload_n hx hb dX4_run_0 rfl (lv_at hl 1 rfl) ?_
  refine lv_iconst (v := 0) hx hb dX4_run_1 (by decide) ?_
  refine lv_sipush (v := 1440) hx hb dX4_run_2 (by decide) ?_
  refine k_callS (n := 3) (As := [.int q, .int 0, .int 1440]) (rest := []) (st1 := [.int (s_X4_in q 0 1440)]) (ws1 := [(y, .inr (4, [.ref nw, .ref ad, .ref pa, .int sn, .ref eA, .long hs])), (nw, .inl (cI, 39, .inl f)), (ad, .inl (cI, 39, .inl g)), (pa, .inl (cI, 195, .inl pf)), (eA, .inl (cI, 3, .inl z))]) S G (c_X4_in l D cI cS q 0 1440) gX4_run_X4_in rfl (by decide +kernel) ⟨⟨rfl, rfl⟩, Nat.le_of_ble_eq_true rfl, Nat.le_of_ble_eq_true rfl⟩ [] (by decide) rfl [] rfl rfl rfl hl.1 rfl (Nat.le_of_ble_eq_true rfl) ⟨Nat.zero_le _, Nat.zero_le _⟩ dX4_run_5 rfl rfl (fun H locs G => ?_)
  refine lv_if_ne (tgt := 18) hx hb dX4_run_8 (by decide) (fun c_1 => ?_) (fun c_1 => ?_)
  · skip
    refine lv_aload_n hx hb dX4_run_18 rfl (lv_at hl 0 rfl) ?_
    refine k_callV (n := 0) (As := []) (rest := []) (st1 := []) (ws1 := [(y, .inr (4, [.ref nw, .ref ad, .ref pa, .int (sSc sn), .ref eA, .long hs])), (nw, .inl (cI, 39, .inl f)), (ad, .inl (cI, 39, .inl g)), (pa, .inl (cI, 195, .inl (mSp sn pf f))), (eA, .inl (cI, 3, .inl z))]) S G (c_X4_save l D cI cS y nw ad pa eA sn hs f g pf z hsn) gX4_run_X4_save rfl (by decide +kernel) ⟨⟨rfl, rfl⟩, Nat.le_of_ble_eq_true rfl, Nat.le_of_ble_eq_true rfl⟩ [0, 1, 2, 3, 4] (by decide) rfl [y, nw, ad, pa, eA] rfl rfl 0 rfl rfl rfl hl.1 rfl (Nat.le_of_ble_eq_true rfl) ⟨Nat.zero_le _, Nat.zero_le _⟩ dX4_run_19 rfl rfl (fun H locs G => ?_)
    refine lv_iconst (v := 0) hx hb dX4_run_22 (by decide) ?_
    refine lv_istore_n (lv' := [(2, .int 0), (0, .ref y), (1, .int q)]) hx hb dX4_run_23 rfl hl (by decide) rfl (fun ls hl => ?_)
    refine lv_iconst (v := 0) hx hb dX4_run_24 (by decide) ?_
    refine lv_istore_n (lv' := [(3, .int 0), (2, .int 0), (0, .ref y), (1, .int q)]) hx hb dX4_run_25 rfl hl (by decide) rfl (fun ls hl => ?_)
    refine lp_X4_run l D cI cS y nw ad pa eA (sSc sn) hs g (mSp sn pf f) z q S q.toNatClampNeg 0 f 0 (Nat.zero_add _) (fun H locs ls G hl => ?_) _ _ ls G (lv_sub hl [0, 1, 3, 2] rfl)
    generalize hu0 : (runM q.toNatClampNeg f 0) = u0 at G hl ⊢
    refine lv_iload_n hx hb dX4_run_44 rfl (lv_at hl 0 rfl) ?_
    have es : (s_X4_run sn f pf z q) = (u0.1, (sSc sn), u0.2, (mSp sn pf f), z) := by rw [s_X4_run, hu0, if_neg c_1]
    exact k_iret S G hr hlk dX4_run_45 (by first | (rw [es]; done) | (rw [es]; rfl) | (simp only [es]; done) | (simp only [es]; rfl)) (by first | (rw [es]; done) | (rw [es]; rfl) | (simp only [es]; done) | (simp only [es]; rfl))
  · skip
    refine lv_aload_n hx hb dX4_run_11 rfl (lv_at hl 0 rfl) ?_
    refine lv_bipush (v := (-2)) hx hb dX4_run_12 (by decide) ?_
    refine k_callV (n := 1) (As := [.int (-2)]) (rest := []) (st1 := [.int (-2)]) (ws1 := [(y, .inr (4, [.ref nw, .ref ad, .ref pa, .int sn, .ref eA, .long hs])), (nw, .inl (cI, 39, .inl f)), (ad, .inl (cI, 39, .inl g)), (pa, .inl (cI, 195, .inl pf)), (eA, .inl (cI, 3, .inl (upd z 0 ((z 0) + 1))))]) S G (c_X4_error_2 l D cI cS y nw ad pa eA sn hs f g pf z) gX4_run_X4_error rfl (by decide +kernel) ⟨⟨rfl, rfl⟩, Nat.le_of_ble_eq_true rfl, Nat.le_of_ble_eq_true rfl⟩ [0, 1, 2, 3, 4] (by decide) rfl [y, nw, ad, pa, eA] rfl rfl 0 rfl rfl rfl hl.1 rfl (Nat.le_of_ble_eq_true rfl) ⟨Nat.zero_le _, Nat.zero_le _⟩ dX4_run_14 rfl rfl (fun H locs G => ?_)
    have es : (s_X4_run sn f pf z q) = ((-2), sn, f, pf, (upd z 0 ((z 0) + 1))) := by rw [s_X4_run, if_pos c_1]
    exact k_iret S G hr hlk dX4_run_17 (by first | (rw [es]; done) | (rw [es]; rfl) | (simp only [es]; done) | (simp only [es]; rfl)) (by first | (rw [es]; done) | (rw [es]; rfl) | (simp only [es]; done) | (simp only [es]; rfl))
def btcM (mn : Int32) : Nat → Int32 → Int32 → Int32
  | 0, _, sm => sm
  | n + 1, pos, sm => btcM mn n ((irem pos mn) + 1) (sm + pos)
theorem cl_le0 {x : Int32} : x ≤ 0 ↔ x.toNatClampNeg = 0 := by
  have := cl_le (x := x) (i := 0) (by decide)
  rw [nI_0] at this
  rw [this]
  omega
set_option maxHeartbeats 4000000 in
set_option maxRecDepth 100000 in
theorem lp_X4_btc_0 (l : Launch) (D : va_G) (cI cS : ClassId) (y : Nat) (nw : Nat) (ad : Nat) (pa : Nat) (eA : Nat) (sn : Int32) (hs : Int64) (f : Nat → Int32) (g : Nat → Int32) (pf : Nat → Int32) (z : Nat → Int32) {p : Program} {ev : Env} {s : State} {m : MethodId} {args : Array Value} {below : List Frame} {meth : Method} {c : Code} {A : Nat → Prop} {Q : State → Prop} (S : CallFix p m c cX4_blowsToCorrect 5 s args wsX4_blowsToCorrect RX4) :
    ∀ (n : Nat) (pos sm : Int32), n < 2 ^ 31 → (∀ (H : Heap) (locs : List Loc) (ls : Array Slot), Gd D (tyL cI cS) A s.heap s [(y, .inr (4, [.ref nw, .ref ad, .ref pa, .int sn, .ref eA, .long hs])), (nw, .inl (cI, 39, .inl f)), (ad, .inl (cI, 39, .inl g)), (pa, .inl (cI, 195, .inl pf)), (eA, .inl (cI, 3, .inl z))] H locs → lv_has ls 5 [(3, .int (btcM 12 n pos sm))] → W p l ev ({ frames := 6, cells := 0, slots := 0, locals := 250 }) s m args below meth c H locs 0 0 Q (F0 m 64 ls [])) → ∀ (H : Heap) (locs : List Loc) (ls : Array Slot), Gd D (tyL cI cS) A s.heap s [(y, .inr (4, [.ref nw, .ref ad, .ref pa, .int sn, .ref eA, .long hs])), (nw, .inl (cI, 39, .inl f)), (ad, .inl (cI, 39, .inl g)), (pa, .inl (cI, 195, .inl pf)), (eA, .inl (cI, 3, .inl z))] H locs → lv_has ls 5 [(4, .int (nI n)), (3, .int sm), (2, .int pos), (1, .int 0)] → W p l ev ({ frames := 6, cells := 0, slots := 0, locals := 250 }) s m args below meth c H locs 0 0 Q (F0 m 40 ls []) := by
  have hx := S.1
  have hb := S.2.1
  have hown : s.vm.findClass RX4 = some m.cls := S.2.2.2.1
  have hts := S.2.2.2.2
  intro n
  induction n with
  | zero =>
    intro pos sm hn hk H locs ls G hl
    refine lv_iload hx hb dX4_blowsToCorrect_40 (lv_at hl 0 rfl) ?_
    refine lv_if_le (tgt := 64) hx hb dX4_blowsToCorrect_42 (by decide) (fun c_1 => ?_) (fun c_1 => absurd (show nI 0 ≤ 0 by decide) c_1)
    exact hk _ _ ls G (lv_sub hl [1] rfl)
  | succ n ih =>
    intro pos sm hn hk H locs ls G hl
    refine lv_iload hx hb dX4_blowsToCorrect_40 (lv_at hl 0 rfl) ?_
    refine lv_if_le (tgt := 64) hx hb dX4_blowsToCorrect_42 (by decide) (fun c_1 => absurd c_1 (show ¬ nI (n + 1) ≤ 0 from nI_nle (by omega) (by omega))) (fun c_1 => ?_)
    refine lv_iload_n hx hb dX4_blowsToCorrect_45 rfl (lv_at hl 1 rfl) ?_
    refine lv_iload_n hx hb dX4_blowsToCorrect_46 rfl (lv_at hl 2 rfl) ?_
    refine lv_iadd hx hb dX4_blowsToCorrect_47 ?_
    refine lv_istore_n (lv' := [(3, .int (sm + pos)), (4, .int (nI (n + 1))), (2, .int pos), (1, .int 0)]) hx hb dX4_blowsToCorrect_48 rfl hl (by decide) rfl (fun ls hl => ?_)
    refine lv_iload_n hx hb dX4_blowsToCorrect_49 rfl (lv_at hl 2 rfl) ?_
    refine lv_iload_n hx hb dX4_blowsToCorrect_50 rfl (lv_at hl 3 rfl) ?_
    refine k_callS (n := 1) (As := [.int 0]) (rest := [.int pos]) (st1 := [.int 12, .int pos]) (ws1 := [(y, .inr (4, [.ref nw, .ref ad, .ref pa, .int sn, .ref eA, .long hs])), (nw, .inl (cI, 39, .inl f)), (ad, .inl (cI, 39, .inl g)), (pa, .inl (cI, 195, .inl pf)), (eA, .inl (cI, 3, .inl z))]) S G (c_X4_positions l D cI cS 0) gX4_blowsToCorrect_X4_positions rfl (by decide +kernel) ⟨⟨rfl, rfl⟩, Nat.le_of_ble_eq_true rfl, Nat.le_of_ble_eq_true rfl⟩ [] (by decide) rfl [] rfl rfl rfl hl.1 rfl (Nat.le_of_ble_eq_true rfl) ⟨Nat.zero_le _, Nat.zero_le _⟩ dX4_blowsToCorrect_51 (congrArg (fun z => Value.int z :: [.int pos]) (by decide : (s_X4_positions 0) = 12)) rfl (fun H locs G => ?_)
    refine lv_irem hx hb dX4_blowsToCorrect_54 (by decide) ?_
    refine lv_lit (v := (irem pos 12)) rfl ?_
    refine lv_iconst (v := 1) hx hb dX4_blowsToCorrect_55 (by decide) ?_
    refine lv_iadd hx hb dX4_blowsToCorrect_56 ?_
    refine lv_istore_n (lv' := [(2, .int ((irem pos 12) + 1)), (3, .int (sm + pos)), (4, .int (nI (n + 1))), (1, .int 0)]) hx hb dX4_blowsToCorrect_57 rfl hl (by decide) rfl (fun ls hl => ?_)
    refine lv_iinc (v := (nI n)) (lv' := [(4, .int (nI n)), (2, .int ((irem pos 12) + 1)), (3, .int (sm + pos)), (1, .int 0)]) hx hb dX4_blowsToCorrect_58 hl (k := 2) rfl (pk_m1 n) (by decide) rfl (fun ls hl => ?_)
    refine lv_goto (tgt := 40) hx hb dX4_blowsToCorrect_61 (by decide) ?_
    exact ih ((irem pos 12) + 1) (sm + pos) (by omega) hk _ _ ls G (lv_sub hl [0, 2, 1, 3] rfl)
set_option maxHeartbeats 4000000 in
set_option maxRecDepth 100000 in
theorem lp_X4_btc_1 (l : Launch) (D : va_G) (cI cS : ClassId) (y : Nat) (nw : Nat) (ad : Nat) (pa : Nat) (eA : Nat) (sn : Int32) (hs : Int64) (f : Nat → Int32) (g : Nat → Int32) (pf : Nat → Int32) (z : Nat → Int32) {p : Program} {ev : Env} {s : State} {m : MethodId} {args : Array Value} {below : List Frame} {meth : Method} {c : Code} {A : Nat → Prop} {Q : State → Prop} (S : CallFix p m c cX4_blowsToCorrect 5 s args wsX4_blowsToCorrect RX4) :
    ∀ (n : Nat) (pos sm : Int32), n < 2 ^ 31 → (∀ (H : Heap) (locs : List Loc) (ls : Array Slot), Gd D (tyL cI cS) A s.heap s [(y, .inr (4, [.ref nw, .ref ad, .ref pa, .int sn, .ref eA, .long hs])), (nw, .inl (cI, 39, .inl f)), (ad, .inl (cI, 39, .inl g)), (pa, .inl (cI, 195, .inl pf)), (eA, .inl (cI, 3, .inl z))] H locs → lv_has ls 5 [(3, .int (btcM 4 n pos sm))] → W p l ev ({ frames := 6, cells := 0, slots := 0, locals := 250 }) s m args below meth c H locs 0 0 Q (F0 m 64 ls [])) → ∀ (H : Heap) (locs : List Loc) (ls : Array Slot), Gd D (tyL cI cS) A s.heap s [(y, .inr (4, [.ref nw, .ref ad, .ref pa, .int sn, .ref eA, .long hs])), (nw, .inl (cI, 39, .inl f)), (ad, .inl (cI, 39, .inl g)), (pa, .inl (cI, 195, .inl pf)), (eA, .inl (cI, 3, .inl z))] H locs → lv_has ls 5 [(4, .int (nI n)), (3, .int sm), (2, .int pos), (1, .int 1)] → W p l ev ({ frames := 6, cells := 0, slots := 0, locals := 250 }) s m args below meth c H locs 0 0 Q (F0 m 40 ls []) := by
  have hx := S.1
  have hb := S.2.1
  have hown : s.vm.findClass RX4 = some m.cls := S.2.2.2.1
  have hts := S.2.2.2.2
  intro n
  induction n with
  | zero =>
    intro pos sm hn hk H locs ls G hl
    refine lv_iload hx hb dX4_blowsToCorrect_40 (lv_at hl 0 rfl) ?_
    refine lv_if_le (tgt := 64) hx hb dX4_blowsToCorrect_42 (by decide) (fun c_1 => ?_) (fun c_1 => absurd (show nI 0 ≤ 0 by decide) c_1)
    exact hk _ _ ls G (lv_sub hl [1] rfl)
  | succ n ih =>
    intro pos sm hn hk H locs ls G hl
    refine lv_iload hx hb dX4_blowsToCorrect_40 (lv_at hl 0 rfl) ?_
    refine lv_if_le (tgt := 64) hx hb dX4_blowsToCorrect_42 (by decide) (fun c_1 => absurd c_1 (show ¬ nI (n + 1) ≤ 0 from nI_nle (by omega) (by omega))) (fun c_1 => ?_)
    refine lv_iload_n hx hb dX4_blowsToCorrect_45 rfl (lv_at hl 1 rfl) ?_
    refine lv_iload_n hx hb dX4_blowsToCorrect_46 rfl (lv_at hl 2 rfl) ?_
    refine lv_iadd hx hb dX4_blowsToCorrect_47 ?_
    refine lv_istore_n (lv' := [(3, .int (sm + pos)), (4, .int (nI (n + 1))), (2, .int pos), (1, .int 1)]) hx hb dX4_blowsToCorrect_48 rfl hl (by decide) rfl (fun ls hl => ?_)
    refine lv_iload_n hx hb dX4_blowsToCorrect_49 rfl (lv_at hl 2 rfl) ?_
    refine lv_iload_n hx hb dX4_blowsToCorrect_50 rfl (lv_at hl 3 rfl) ?_
    refine k_callS (n := 1) (As := [.int 1]) (rest := [.int pos]) (st1 := [.int 4, .int pos]) (ws1 := [(y, .inr (4, [.ref nw, .ref ad, .ref pa, .int sn, .ref eA, .long hs])), (nw, .inl (cI, 39, .inl f)), (ad, .inl (cI, 39, .inl g)), (pa, .inl (cI, 195, .inl pf)), (eA, .inl (cI, 3, .inl z))]) S G (c_X4_positions l D cI cS 1) gX4_blowsToCorrect_X4_positions rfl (by decide +kernel) ⟨⟨rfl, rfl⟩, Nat.le_of_ble_eq_true rfl, Nat.le_of_ble_eq_true rfl⟩ [] (by decide) rfl [] rfl rfl rfl hl.1 rfl (Nat.le_of_ble_eq_true rfl) ⟨Nat.zero_le _, Nat.zero_le _⟩ dX4_blowsToCorrect_51 (congrArg (fun z => Value.int z :: [.int pos]) (by decide : (s_X4_positions 1) = 4)) rfl (fun H locs G => ?_)
    refine lv_irem hx hb dX4_blowsToCorrect_54 (by decide) ?_
    refine lv_lit (v := (irem pos 4)) rfl ?_
    refine lv_iconst (v := 1) hx hb dX4_blowsToCorrect_55 (by decide) ?_
    refine lv_iadd hx hb dX4_blowsToCorrect_56 ?_
    refine lv_istore_n (lv' := [(2, .int ((irem pos 4) + 1)), (3, .int (sm + pos)), (4, .int (nI (n + 1))), (1, .int 1)]) hx hb dX4_blowsToCorrect_57 rfl hl (by decide) rfl (fun ls hl => ?_)
    refine lv_iinc (v := (nI n)) (lv' := [(4, .int (nI n)), (2, .int ((irem pos 4) + 1)), (3, .int (sm + pos)), (1, .int 1)]) hx hb dX4_blowsToCorrect_58 hl (k := 2) rfl (pk_m1 n) (by decide) rfl (fun ls hl => ?_)
    refine lv_goto (tgt := 40) hx hb dX4_blowsToCorrect_61 (by decide) ?_
    exact ih ((irem pos 4) + 1) (sm + pos) (by omega) hk _ _ ls G (lv_sub hl [0, 2, 1, 3] rfl)
theorem lv_eq3 {ls : Array Slot} {nL : Nat} {l : List (Nat × Value)} {v w : Int32} (h : lv_has ls nL ((4, .int v) :: (3, .int 0) :: l)) (e : (0 : Int32) = w) : lv_has ls nL ((4, .int v) :: (3, .int w) :: l) := by rw [← e]; exact h
def s_X4_blowsToCorrect (f : Nat → Int32) (z : Nat → Int32) (tn : Int32) : Int32 × (Nat → Int32) := (if tn = 0 then ((btcM 12 (s_X4_lagAt_0 f (f 0)).toNatClampNeg (f 5) 0), z) else (if tn = 1 then ((btcM 4 (s_X4_lagAt_1 f (f 0)).toNatClampNeg (f 10) 0), z) else ((-2), (upd z 0 ((z 0) + 1)))))
set_option maxHeartbeats 4000000 in
set_option maxRecDepth 100000 in
theorem c_X4_blowsToCorrect (l : Launch) (D : va_G) (cI cS : ClassId) (y : Nat) (nw : Nat) (ad : Nat) (pa : Nat) (eA : Nat) (sn : Int32) (hs : Int64) (f : Nat → Int32) (g : Nat → Int32) (pf : Nat → Int32) (z : Nat → Int32) (tn : Int32) : Ct l yX4_blowsToCorrect wsX4_blowsToCorrect ({ frames := 6, cells := 0, slots := 0, locals := 250 }) D (tyL cI cS) [.ref y, .int tn] [(y, .inr (4, [.ref nw, .ref ad, .ref pa, .int sn, .ref eA, .long hs])), (nw, .inl (cI, 39, .inl f)), (ad, .inl (cI, 39, .inl g)), (pa, .inl (cI, 195, .inl pf)), (eA, .inl (cI, 3, .inl z))] (some (.int ((s_X4_blowsToCorrect f z tn).1))) [(y, .inr (4, [.ref nw, .ref ad, .ref pa, .int sn, .ref eA, .long hs])), (nw, .inl (cI, 39, .inl f)), (ad, .inl (cI, 39, .inl g)), (pa, .inl (cI, 195, .inl pf)), (eA, .inl (cI, 3, .inl ((s_X4_blowsToCorrect f z tn).2)))] := by
  refine Ct.of (cc := cX4_blowsToCorrect) (maxL := 5) (ret := (some .int)) (by decide) rfl (Nat.le_of_ble_eq_true rfl) ?_
  intro p ev s m args below meth c A ls S hr hlk G hl
  have hx := S.1
  have hb := S.2.1
  have hown : s.vm.findClass RX4 = some m.cls := S.2.2.2.1
  have hts := S.2.2.2.2
  have hl : lv_has ls 5 [(0, .ref y), (1, .int tn)] := hl
  have hiX4 : ∀ w ∈ wsX40, w ∈ wsX4_blowsToCorrect := by decide +kernel
  have hf7 := hts (.fieldLink RX4 7 "StrikingWorkModel" "now" "[I") (by decide +kernel)
  by_cases c_1 : tn = 0
  · skip
    have hl : lv_has ls 5 [(0, .ref y), (1, .int 0)] := by rw [c_1] at hl; exact hl
    refine lv_iload_n hx hb dX4_blowsToCorrect_0 rfl (lv_at hl 1 rfl) ?_
    refine k_callS (n := 1) (As := [.int 0]) (rest := []) (st1 := [.int 1]) (ws1 := [(y, .inr (4, [.ref nw, .ref ad, .ref pa, .int sn, .ref eA, .long hs])), (nw, .inl (cI, 39, .inl f)), (ad, .inl (cI, 39, .inl g)), (pa, .inl (cI, 195, .inl pf)), (eA, .inl (cI, 3, .inl z))]) S G (c_X4_isTrain l D cI cS 0) gX4_blowsToCorrect_X4_isTrain rfl (by decide +kernel) ⟨⟨rfl, rfl⟩, Nat.le_of_ble_eq_true rfl, Nat.le_of_ble_eq_true rfl⟩ [] (by decide) rfl [] rfl rfl rfl hl.1 rfl (Nat.le_of_ble_eq_true rfl) ⟨Nat.zero_le _, Nat.zero_le _⟩ dX4_blowsToCorrect_1 (congrArg (fun z => Value.int z :: []) (by decide : (s_X4_isTrain 0) = 1)) rfl (fun H locs G => ?_)
    refine lv_if_ne (tgt := 14) hx hb dX4_blowsToCorrect_4 (by decide) (fun c_2 => ?_) (fun c_2 => absurd c_2 (by decide))
    refine lv_aload_n hx hb dX4_blowsToCorrect_14 rfl (lv_at hl 0 rfl) ?_
    refine k_get (v := .ref nw) S G 0 rfl rfl hiX4 0 (by decide) hf7 rfl dX4_blowsToCorrect_15 ?_
    refine lv_iload_n hx hb dX4_blowsToCorrect_18 rfl (lv_at hl 1 rfl) ?_
    refine lv_iconst (v := 1) hx hb dX4_blowsToCorrect_19 (by decide) ?_
    refine k_callS (n := 2) (As := [.int 0, .int 1]) (rest := [.ref nw]) (st1 := [.int 5, .ref nw]) (ws1 := [(y, .inr (4, [.ref nw, .ref ad, .ref pa, .int sn, .ref eA, .long hs])), (nw, .inl (cI, 39, .inl f)), (ad, .inl (cI, 39, .inl g)), (pa, .inl (cI, 195, .inl pf)), (eA, .inl (cI, 3, .inl z))]) S G (c_X4_at l D cI cS 0 1) gX4_blowsToCorrect_X4_at rfl (by decide +kernel) ⟨⟨rfl, rfl⟩, Nat.le_of_ble_eq_true rfl, Nat.le_of_ble_eq_true rfl⟩ [] (by decide) rfl [] rfl rfl rfl hl.1 rfl (Nat.le_of_ble_eq_true rfl) ⟨Nat.zero_le _, Nat.zero_le _⟩ dX4_blowsToCorrect_20 (congrArg (fun z => Value.int z :: [.ref nw]) (by decide : (s_X4_at 0 1) = 5)) rfl (fun H locs G => ?_)
    refine k_iald (x := (f 5)) S G 1 0 rfl rfl (by unfold vp_in; decide) rfl dX4_blowsToCorrect_23 ?_
    refine lv_istore_n (lv' := [(2, .int (f 5)), (0, .ref y), (1, .int 0)]) hx hb dX4_blowsToCorrect_24 rfl hl (by decide) rfl (fun ls hl => ?_)
    refine lv_iconst (v := 0) hx hb dX4_blowsToCorrect_25 (by decide) ?_
    refine lv_istore_n (lv' := [(3, .int 0), (2, .int (f 5)), (0, .ref y), (1, .int 0)]) hx hb dX4_blowsToCorrect_26 rfl hl (by decide) rfl (fun ls hl => ?_)
    refine lv_aload_n hx hb dX4_blowsToCorrect_27 rfl (lv_at hl 2 rfl) ?_
    refine lv_iload_n hx hb dX4_blowsToCorrect_28 rfl (lv_at hl 3 rfl) ?_
    refine lv_aload_n hx hb dX4_blowsToCorrect_29 rfl (lv_at hl 2 rfl) ?_
    refine k_get (v := .ref nw) S G 0 rfl rfl hiX4 0 (by decide) hf7 rfl dX4_blowsToCorrect_30 ?_
    refine lv_iconst (v := 0) hx hb dX4_blowsToCorrect_33 (by decide) ?_
    refine k_iald (x := (f 0)) S G 1 0 rfl rfl (by unfold vp_in; decide) rfl dX4_blowsToCorrect_34 ?_
    refine k_callV (n := 2) (As := [.int 0, .int (f 0)]) (rest := []) (st1 := [.int (s_X4_lagAt_0 f (f 0))]) (ws1 := [(y, .inr (4, [.ref nw, .ref ad, .ref pa, .int sn, .ref eA, .long hs])), (nw, .inl (cI, 39, .inl f)), (ad, .inl (cI, 39, .inl g)), (pa, .inl (cI, 195, .inl pf)), (eA, .inl (cI, 3, .inl z))]) S G (c_X4_lagAt_0 l D cI cS y nw ad pa eA sn hs f g pf z (f 0)) gX4_blowsToCorrect_X4_lagAt rfl (by decide +kernel) ⟨⟨rfl, rfl⟩, Nat.le_of_ble_eq_true rfl, Nat.le_of_ble_eq_true rfl⟩ [0, 1, 2, 3, 4] (by decide) rfl [y, nw, ad, pa, eA] rfl rfl 0 rfl rfl rfl hl.1 rfl (Nat.le_of_ble_eq_true rfl) ⟨Nat.zero_le _, Nat.zero_le _⟩ dX4_blowsToCorrect_35 rfl rfl (fun H locs G => ?_)
    refine lv_istore (lv' := [(4, .int (s_X4_lagAt_0 f (f 0))), (3, .int 0), (2, .int (f 5)), (0, .ref y), (1, .int 0)]) hx hb dX4_blowsToCorrect_38 hl (by decide) rfl (fun ls hl => ?_)
    by_cases hneg : (s_X4_lagAt_0 f (f 0)) < 0
    · skip
      have e0 : (0 : Int32) = btcM 12 (s_X4_lagAt_0 f (f 0)).toNatClampNeg (f 5) 0 := by rw [cl_le0.mp (Int32.le_of_lt hneg)]; rfl
      have hl : lv_has ls 5 [(4, .int (s_X4_lagAt_0 f (f 0))), (3, .int (btcM 12 (s_X4_lagAt_0 f (f 0)).toNatClampNeg (f 5) 0)), (2, .int (f 5)), (0, .ref y), (1, .int 0)] := lv_eq3 hl e0
      refine lv_iload hx hb dX4_blowsToCorrect_40 (lv_at hl 0 rfl) ?_
      refine lv_if_le (tgt := 64) hx hb dX4_blowsToCorrect_42 (by decide) (fun c_4 => ?_) (fun c_4 => absurd (Int32.le_of_lt hneg) c_4)
      refine lv_iload_n hx hb dX4_blowsToCorrect_64 rfl (lv_at hl 1 rfl) ?_
      have es : (s_X4_blowsToCorrect f z tn) = ((btcM 12 (s_X4_lagAt_0 f (f 0)).toNatClampNeg (f 5) 0), z) := by rw [s_X4_blowsToCorrect, if_pos c_1]
      exact k_iret S G hr hlk dX4_blowsToCorrect_65 (by first | (rw [es]; done) | (rw [es]; rfl) | (simp only [es]; done) | (simp only [es]; rfl)) (by first | (rw [es]; done) | (rw [es]; rfl) | (simp only [es]; done) | (simp only [es]; rfl))
    · skip
      obtain ⟨T, hT, eT⟩ := nI_of hneg
      refine lp_X4_btc_0 l D cI cS y nw ad pa eA sn hs f g pf z S T (f 5) 0 hT (fun H locs ls G hl => ?_) _ _ ls G (by rw [eT] at hl; exact lv_sub hl [0, 1, 2, 4] rfl)
      have eT2 : T = (s_X4_lagAt_0 f (f 0)).toNatClampNeg := by rw [eT, nI_clamp hT]
      rw [eT2] at hl
      refine lv_iload_n hx hb dX4_blowsToCorrect_64 rfl (lv_at hl 0 rfl) ?_
      have es : (s_X4_blowsToCorrect f z tn) = ((btcM 12 (s_X4_lagAt_0 f (f 0)).toNatClampNeg (f 5) 0), z) := by rw [s_X4_blowsToCorrect, if_pos c_1]
      exact k_iret S G hr hlk dX4_blowsToCorrect_65 (by first | (rw [es]; done) | (rw [es]; rfl) | (simp only [es]; done) | (simp only [es]; rfl)) (by first | (rw [es]; done) | (rw [es]; rfl) | (simp only [es]; done) | (simp only [es]; rfl))
  · skip
    by_cases c_5 : tn = 1
    · skip
      have hl : lv_has ls 5 [(0, .ref y), (1, .int 1)] := by rw [c_5] at hl; exact hl
      refine lv_iload_n hx hb dX4_blowsToCorrect_0 rfl (lv_at hl 1 rfl) ?_
      refine k_callS (n := 1) (As := [.int 1]) (rest := []) (st1 := [.int 1]) (ws1 := [(y, .inr (4, [.ref nw, .ref ad, .ref pa, .int sn, .ref eA, .long hs])), (nw, .inl (cI, 39, .inl f)), (ad, .inl (cI, 39, .inl g)), (pa, .inl (cI, 195, .inl pf)), (eA, .inl (cI, 3, .inl z))]) S G (c_X4_isTrain l D cI cS 1) gX4_blowsToCorrect_X4_isTrain rfl (by decide +kernel) ⟨⟨rfl, rfl⟩, Nat.le_of_ble_eq_true rfl, Nat.le_of_ble_eq_true rfl⟩ [] (by decide) rfl [] rfl rfl rfl hl.1 rfl (Nat.le_of_ble_eq_true rfl) ⟨Nat.zero_le _, Nat.zero_le _⟩ dX4_blowsToCorrect_1 (congrArg (fun z => Value.int z :: []) (by decide : (s_X4_isTrain 1) = 1)) rfl (fun H locs G => ?_)
      refine lv_if_ne (tgt := 14) hx hb dX4_blowsToCorrect_4 (by decide) (fun c_6 => ?_) (fun c_6 => absurd c_6 (by decide))
      refine lv_aload_n hx hb dX4_blowsToCorrect_14 rfl (lv_at hl 0 rfl) ?_
      refine k_get (v := .ref nw) S G 0 rfl rfl hiX4 0 (by decide) hf7 rfl dX4_blowsToCorrect_15 ?_
      refine lv_iload_n hx hb dX4_blowsToCorrect_18 rfl (lv_at hl 1 rfl) ?_
      refine lv_iconst (v := 1) hx hb dX4_blowsToCorrect_19 (by decide) ?_
      refine k_callS (n := 2) (As := [.int 1, .int 1]) (rest := [.ref nw]) (st1 := [.int 10, .ref nw]) (ws1 := [(y, .inr (4, [.ref nw, .ref ad, .ref pa, .int sn, .ref eA, .long hs])), (nw, .inl (cI, 39, .inl f)), (ad, .inl (cI, 39, .inl g)), (pa, .inl (cI, 195, .inl pf)), (eA, .inl (cI, 3, .inl z))]) S G (c_X4_at l D cI cS 1 1) gX4_blowsToCorrect_X4_at rfl (by decide +kernel) ⟨⟨rfl, rfl⟩, Nat.le_of_ble_eq_true rfl, Nat.le_of_ble_eq_true rfl⟩ [] (by decide) rfl [] rfl rfl rfl hl.1 rfl (Nat.le_of_ble_eq_true rfl) ⟨Nat.zero_le _, Nat.zero_le _⟩ dX4_blowsToCorrect_20 (congrArg (fun z => Value.int z :: [.ref nw]) (by decide : (s_X4_at 1 1) = 10)) rfl (fun H locs G => ?_)
      refine k_iald (x := (f 10)) S G 1 0 rfl rfl (by unfold vp_in; decide) rfl dX4_blowsToCorrect_23 ?_
      refine lv_istore_n (lv' := [(2, .int (f 10)), (0, .ref y), (1, .int 1)]) hx hb dX4_blowsToCorrect_24 rfl hl (by decide) rfl (fun ls hl => ?_)
      refine lv_iconst (v := 0) hx hb dX4_blowsToCorrect_25 (by decide) ?_
      refine lv_istore_n (lv' := [(3, .int 0), (2, .int (f 10)), (0, .ref y), (1, .int 1)]) hx hb dX4_blowsToCorrect_26 rfl hl (by decide) rfl (fun ls hl => ?_)
      refine lv_aload_n hx hb dX4_blowsToCorrect_27 rfl (lv_at hl 2 rfl) ?_
      refine lv_iload_n hx hb dX4_blowsToCorrect_28 rfl (lv_at hl 3 rfl) ?_
      refine lv_aload_n hx hb dX4_blowsToCorrect_29 rfl (lv_at hl 2 rfl) ?_
      refine k_get (v := .ref nw) S G 0 rfl rfl hiX4 0 (by decide) hf7 rfl dX4_blowsToCorrect_30 ?_
      refine lv_iconst (v := 0) hx hb dX4_blowsToCorrect_33 (by decide) ?_
      refine k_iald (x := (f 0)) S G 1 0 rfl rfl (by unfold vp_in; decide) rfl dX4_blowsToCorrect_34 ?_
      refine k_callV (n := 2) (As := [.int 1, .int (f 0)]) (rest := []) (st1 := [.int (s_X4_lagAt_1 f (f 0))]) (ws1 := [(y, .inr (4, [.ref nw, .ref ad, .ref pa, .int sn, .ref eA, .long hs])), (nw, .inl (cI, 39, .inl f)), (ad, .inl (cI, 39, .inl g)), (pa, .inl (cI, 195, .inl pf)), (eA, .inl (cI, 3, .inl z))]) S G (c_X4_lagAt_1 l D cI cS y nw ad pa eA sn hs f g pf z (f 0)) gX4_blowsToCorrect_X4_lagAt rfl (by decide +kernel) ⟨⟨rfl, rfl⟩, Nat.le_of_ble_eq_true rfl, Nat.le_of_ble_eq_true rfl⟩ [0, 1, 2, 3, 4] (by decide) rfl [y, nw, ad, pa, eA] rfl rfl 0 rfl rfl rfl hl.1 rfl (Nat.le_of_ble_eq_true rfl) ⟨Nat.zero_le _, Nat.zero_le _⟩ dX4_blowsToCorrect_35 rfl rfl (fun H locs G => ?_)
      refine lv_istore (lv' := [(4, .int (s_X4_lagAt_1 f (f 0))), (3, .int 0), (2, .int (f 10)), (0, .ref y), (1, .int 1)]) hx hb dX4_blowsToCorrect_38 hl (by decide) rfl (fun ls hl => ?_)
      by_cases hneg : (s_X4_lagAt_1 f (f 0)) < 0
      · skip
        have e0 : (0 : Int32) = btcM 4 (s_X4_lagAt_1 f (f 0)).toNatClampNeg (f 10) 0 := by rw [cl_le0.mp (Int32.le_of_lt hneg)]; rfl
        have hl : lv_has ls 5 [(4, .int (s_X4_lagAt_1 f (f 0))), (3, .int (btcM 4 (s_X4_lagAt_1 f (f 0)).toNatClampNeg (f 10) 0)), (2, .int (f 10)), (0, .ref y), (1, .int 1)] := lv_eq3 hl e0
        refine lv_iload hx hb dX4_blowsToCorrect_40 (lv_at hl 0 rfl) ?_
        refine lv_if_le (tgt := 64) hx hb dX4_blowsToCorrect_42 (by decide) (fun c_8 => ?_) (fun c_8 => absurd (Int32.le_of_lt hneg) c_8)
        refine lv_iload_n hx hb dX4_blowsToCorrect_64 rfl (lv_at hl 1 rfl) ?_
        have es : (s_X4_blowsToCorrect f z tn) = ((btcM 4 (s_X4_lagAt_1 f (f 0)).toNatClampNeg (f 10) 0), z) := by rw [s_X4_blowsToCorrect, if_neg c_1, if_pos c_5]
        exact k_iret S G hr hlk dX4_blowsToCorrect_65 (by first | (rw [es]; done) | (rw [es]; rfl) | (simp only [es]; done) | (simp only [es]; rfl)) (by first | (rw [es]; done) | (rw [es]; rfl) | (simp only [es]; done) | (simp only [es]; rfl))
      · skip
        obtain ⟨T, hT, eT⟩ := nI_of hneg
        refine lp_X4_btc_1 l D cI cS y nw ad pa eA sn hs f g pf z S T (f 10) 0 hT (fun H locs ls G hl => ?_) _ _ ls G (by rw [eT] at hl; exact lv_sub hl [0, 1, 2, 4] rfl)
        have eT2 : T = (s_X4_lagAt_1 f (f 0)).toNatClampNeg := by rw [eT, nI_clamp hT]
        rw [eT2] at hl
        refine lv_iload_n hx hb dX4_blowsToCorrect_64 rfl (lv_at hl 0 rfl) ?_
        have es : (s_X4_blowsToCorrect f z tn) = ((btcM 4 (s_X4_lagAt_1 f (f 0)).toNatClampNeg (f 10) 0), z) := by rw [s_X4_blowsToCorrect, if_neg c_1, if_pos c_5]
        exact k_iret S G hr hlk dX4_blowsToCorrect_65 (by first | (rw [es]; done) | (rw [es]; rfl) | (simp only [es]; done) | (simp only [es]; rfl)) (by first | (rw [es]; done) | (rw [es]; rfl) | (simp only [es]; done) | (simp only [es]; rfl))
    · skip
      refine lv_iload_n hx hb dX4_blowsToCorrect_0 rfl (lv_at hl 1 rfl) ?_
      refine k_callS (n := 1) (As := [.int tn]) (rest := []) (st1 := [.int 0]) (ws1 := [(y, .inr (4, [.ref nw, .ref ad, .ref pa, .int sn, .ref eA, .long hs])), (nw, .inl (cI, 39, .inl f)), (ad, .inl (cI, 39, .inl g)), (pa, .inl (cI, 195, .inl pf)), (eA, .inl (cI, 3, .inl z))]) S G (c_X4_isTrain l D cI cS tn) gX4_blowsToCorrect_X4_isTrain rfl (by decide +kernel) ⟨⟨rfl, rfl⟩, Nat.le_of_ble_eq_true rfl, Nat.le_of_ble_eq_true rfl⟩ [] (by decide) rfl [] rfl rfl rfl hl.1 rfl (Nat.le_of_ble_eq_true rfl) ⟨Nat.zero_le _, Nat.zero_le _⟩ dX4_blowsToCorrect_1 (congrArg (fun z => Value.int z :: []) (X4_isTrain_else c_1 c_5)) rfl (fun H locs G => ?_)
      refine lv_if_ne (tgt := 14) hx hb dX4_blowsToCorrect_4 (by decide) (fun c_9 => absurd c_9 (by decide)) (fun c_9 => ?_)
      refine lv_aload_n hx hb dX4_blowsToCorrect_7 rfl (lv_at hl 0 rfl) ?_
      refine lv_bipush (v := (-2)) hx hb dX4_blowsToCorrect_8 (by decide) ?_
      refine k_callV (n := 1) (As := [.int (-2)]) (rest := []) (st1 := [.int (-2)]) (ws1 := [(y, .inr (4, [.ref nw, .ref ad, .ref pa, .int sn, .ref eA, .long hs])), (nw, .inl (cI, 39, .inl f)), (ad, .inl (cI, 39, .inl g)), (pa, .inl (cI, 195, .inl pf)), (eA, .inl (cI, 3, .inl (upd z 0 ((z 0) + 1))))]) S G (c_X4_error_2 l D cI cS y nw ad pa eA sn hs f g pf z) gX4_blowsToCorrect_X4_error rfl (by decide +kernel) ⟨⟨rfl, rfl⟩, Nat.le_of_ble_eq_true rfl, Nat.le_of_ble_eq_true rfl⟩ [0, 1, 2, 3, 4] (by decide) rfl [y, nw, ad, pa, eA] rfl rfl 0 rfl rfl rfl hl.1 rfl (Nat.le_of_ble_eq_true rfl) ⟨Nat.zero_le _, Nat.zero_le _⟩ dX4_blowsToCorrect_10 rfl rfl (fun H locs G => ?_)
      have es : (s_X4_blowsToCorrect f z tn) = ((-2), (upd z 0 ((z 0) + 1))) := by rw [s_X4_blowsToCorrect, if_neg c_1, if_neg c_5]
      exact k_iret S G hr hlk dX4_blowsToCorrect_13 (by first | (rw [es]; done) | (rw [es]; rfl) | (simp only [es]; done) | (simp only [es]; rfl)) (by first | (rw [es]; done) | (rw [es]; rfl) | (simp only [es]; done) | (simp only [es]; rfl))
