theorem cl_le {x : Int32} {i : Nat} (hi : i < 2 ^ 31) : x ≤ nI i ↔ x.toNatClampNeg ≤ i := by
  rw [Int32.le_iff_toInt_le, nI_toInt hi]
  show x.toInt ≤ (i : Int) ↔ x.toInt.toNat ≤ i
  omega
theorem cl_lt (x : Int32) : x.toNatClampNeg < 2 ^ 31 := by
  show x.toInt.toNat < 2 ^ 31
  have := Int32.toInt_lt x
  omega
/-- what n trips more strike, the wheel at pos -/
def btcL (nn : Int32) : Nat → Int32 → Int32 → Int32
  | 0, _, bl => bl
  | n + 1, pos, bl => btcL nn n (s_X2_positionAfter nn pos) (bl + pos)
set_option maxHeartbeats 4000000 in
set_option maxRecDepth 100000 in
theorem lp_X3_btc_0 (l : Launch) (D : va_G) (cI cS : ClassId) (x : Nat) (sv : Nat) (tl : Nat) (er : Nat) (sc : Int32) (z : Nat → Int32) (a : Nat → Nat) (r : Nat → Int32) (e : Nat → Nat → Int32) (tp : Int32) {p : Program} {ev : Env} {s : State} {m : MethodId} {args : Array Value} {below : List Frame} {meth : Method} {c : Code} {A : Nat → Prop} {Q : State → Prop} (S : CallFix p m c cX3_blowsToCorrect 7 s args wsX3_blowsToCorrect RX3)  :
    ∀ (n i : Nat) (pos bl : Int32), i + n = tp.toNatClampNeg → (∀ (H : Heap) (locs : List Loc) (ls : Array Slot), Gd D (tyL cI cS) A s.heap s ((x, .inr (3, [.ref (a 0), .ref sv, .ref tl, .ref er, .int sc])) :: (er, .inl (cI, 3, .inl z)) :: stW cI a r e ([])) H locs → lv_has ls 7 [(5, .int (btcL 0 n pos bl))] → W p l ev ({ frames := 6, cells := 0, slots := 0, locals := 200 }) s m args below meth c H locs 0 0 Q (F0 m 74 ls [])) → ∀ (H : Heap) (locs : List Loc) (ls : Array Slot), Gd D (tyL cI cS) A s.heap s ((x, .inr (3, [.ref (a 0), .ref sv, .ref tl, .ref er, .int sc])) :: (er, .inl (cI, 3, .inl z)) :: stW cI a r e ([])) H locs → lv_has ls 7 [(6, .int (nI i)), (5, .int bl), (4, .int pos), (3, .int tp), (2, .ref (a 1))] → W p l ev ({ frames := 6, cells := 0, slots := 0, locals := 200 }) s m args below meth c H locs 0 0 Q (F0 m 47 ls []) := by
  have hx := S.1
  have hb := S.2.1
  have hown : s.vm.findClass RX3 = some m.cls := S.2.2.2.1
  have hts := S.2.2.2.2
  intro n
  induction n with
  | zero =>
    intro i pos bl hin hk H locs ls G hl
    refine lv_iload hx hb dX3_blowsToCorrect_47 (lv_at hl 0 rfl) ?_
    refine lv_iload_n hx hb dX3_blowsToCorrect_49 rfl (lv_at hl 3 rfl) ?_
    refine lv_icmp_ge (tgt := 74) hx hb dX3_blowsToCorrect_50 (by decide) (fun c_1 => ?_) (fun c_1 => absurd (show tp ≤ nI i from (cl_le (by have := cl_lt tp; omega)).mpr (by omega)) c_1)
    exact hk _ _ ls G (lv_sub hl [1] rfl)
  | succ n ih =>
    intro i pos bl hin hk H locs ls G hl
    refine lv_iload hx hb dX3_blowsToCorrect_47 (lv_at hl 0 rfl) ?_
    refine lv_iload_n hx hb dX3_blowsToCorrect_49 rfl (lv_at hl 3 rfl) ?_
    refine lv_icmp_ge (tgt := 74) hx hb dX3_blowsToCorrect_50 (by decide) (fun c_1 => absurd c_1 (show ¬ tp ≤ nI i from fun z => absurd ((cl_le (by have := cl_lt tp; omega)).mp z) (by omega))) (fun c_1 => ?_)
    refine lv_iload hx hb dX3_blowsToCorrect_53 (lv_at hl 1 rfl) ?_
    refine lv_iload hx hb dX3_blowsToCorrect_55 (lv_at hl 2 rfl) ?_
    refine lv_iadd hx hb dX3_blowsToCorrect_57 ?_
    refine lv_istore (lv' := [(5, .int (bl + pos)), (6, .int (nI i)), (4, .int pos), (3, .int tp), (2, .ref (a 1))]) hx hb dX3_blowsToCorrect_58 hl (by decide) rfl (fun ls hl => ?_)
    refine lv_aload_n hx hb dX3_blowsToCorrect_60 rfl (lv_at hl 4 rfl) ?_
    refine lv_iload hx hb dX3_blowsToCorrect_61 (lv_at hl 2 rfl) ?_
    refine k_callV (n := 1) (As := [.int pos]) (rest := []) (st1 := [.int (s_X2_positionAfter 0 pos)]) (ws1 := ((x, .inr (3, [.ref (a 0), .ref sv, .ref tl, .ref er, .int sc])) :: (er, .inl (cI, 3, .inl z)) :: stW cI a r e ([]))) S G (c_X2_positionAfter l D cI cS (a 1) 0 (r 4) (r 5) (r 6) (r 7) (r 8) pos) gX3_blowsToCorrect_X2_positionAfter rfl (by decide +kernel) ⟨⟨rfl, rfl⟩, Nat.le_of_ble_eq_true rfl, Nat.le_of_ble_eq_true rfl⟩ [3] (by decide) rfl [(a 1)] rfl rfl 3 rfl rfl rfl hl.1 rfl (Nat.le_of_ble_eq_true rfl) ⟨Nat.zero_le _, Nat.zero_le _⟩ dX3_blowsToCorrect_63 rfl rfl (fun H locs G => ?_)
    refine lv_istore (lv' := [(4, .int (s_X2_positionAfter 0 pos)), (5, .int (bl + pos)), (6, .int (nI i)), (3, .int tp), (2, .ref (a 1))]) hx hb dX3_blowsToCorrect_66 hl (by decide) rfl (fun ls hl => ?_)
    refine lv_iinc (v := (nI (i + 1))) (lv' := [(6, .int (nI (i + 1))), (4, .int (s_X2_positionAfter 0 pos)), (5, .int (bl + pos)), (3, .int tp), (2, .ref (a 1))]) hx hb dX3_blowsToCorrect_68 hl (k := 2) rfl (nI_1 i) (by decide) rfl (fun ls hl => ?_)
    refine lv_goto (tgt := 47) hx hb dX3_blowsToCorrect_71 (by decide) ?_
    exact ih (i + 1) (s_X2_positionAfter 0 pos) (bl + pos) (by omega) hk _ _ ls G (lv_sub hl [0, 2, 1, 3, 4] rfl)
set_option maxHeartbeats 4000000 in
set_option maxRecDepth 100000 in
theorem lp_X3_btc_1 (l : Launch) (D : va_G) (cI cS : ClassId) (x : Nat) (sv : Nat) (tl : Nat) (er : Nat) (sc : Int32) (z : Nat → Int32) (a : Nat → Nat) (r : Nat → Int32) (e : Nat → Nat → Int32) (tp : Int32) {p : Program} {ev : Env} {s : State} {m : MethodId} {args : Array Value} {below : List Frame} {meth : Method} {c : Code} {A : Nat → Prop} {Q : State → Prop} (S : CallFix p m c cX3_blowsToCorrect 7 s args wsX3_blowsToCorrect RX3)  :
    ∀ (n i : Nat) (pos bl : Int32), i + n = tp.toNatClampNeg → (∀ (H : Heap) (locs : List Loc) (ls : Array Slot), Gd D (tyL cI cS) A s.heap s ((x, .inr (3, [.ref (a 0), .ref sv, .ref tl, .ref er, .int sc])) :: (er, .inl (cI, 3, .inl z)) :: stW cI a r e ([])) H locs → lv_has ls 7 [(5, .int (btcL 1 n pos bl))] → W p l ev ({ frames := 6, cells := 0, slots := 0, locals := 200 }) s m args below meth c H locs 0 0 Q (F0 m 74 ls [])) → ∀ (H : Heap) (locs : List Loc) (ls : Array Slot), Gd D (tyL cI cS) A s.heap s ((x, .inr (3, [.ref (a 0), .ref sv, .ref tl, .ref er, .int sc])) :: (er, .inl (cI, 3, .inl z)) :: stW cI a r e ([])) H locs → lv_has ls 7 [(6, .int (nI i)), (5, .int bl), (4, .int pos), (3, .int tp), (2, .ref (a 2))] → W p l ev ({ frames := 6, cells := 0, slots := 0, locals := 200 }) s m args below meth c H locs 0 0 Q (F0 m 47 ls []) := by
  have hx := S.1
  have hb := S.2.1
  have hown : s.vm.findClass RX3 = some m.cls := S.2.2.2.1
  have hts := S.2.2.2.2
  intro n
  induction n with
  | zero =>
    intro i pos bl hin hk H locs ls G hl
    refine lv_iload hx hb dX3_blowsToCorrect_47 (lv_at hl 0 rfl) ?_
    refine lv_iload_n hx hb dX3_blowsToCorrect_49 rfl (lv_at hl 3 rfl) ?_
    refine lv_icmp_ge (tgt := 74) hx hb dX3_blowsToCorrect_50 (by decide) (fun c_1 => ?_) (fun c_1 => absurd (show tp ≤ nI i from (cl_le (by have := cl_lt tp; omega)).mpr (by omega)) c_1)
    exact hk _ _ ls G (lv_sub hl [1] rfl)
  | succ n ih =>
    intro i pos bl hin hk H locs ls G hl
    refine lv_iload hx hb dX3_blowsToCorrect_47 (lv_at hl 0 rfl) ?_
    refine lv_iload_n hx hb dX3_blowsToCorrect_49 rfl (lv_at hl 3 rfl) ?_
    refine lv_icmp_ge (tgt := 74) hx hb dX3_blowsToCorrect_50 (by decide) (fun c_1 => absurd c_1 (show ¬ tp ≤ nI i from fun z => absurd ((cl_le (by have := cl_lt tp; omega)).mp z) (by omega))) (fun c_1 => ?_)
    refine lv_iload hx hb dX3_blowsToCorrect_53 (lv_at hl 1 rfl) ?_
    refine lv_iload hx hb dX3_blowsToCorrect_55 (lv_at hl 2 rfl) ?_
    refine lv_iadd hx hb dX3_blowsToCorrect_57 ?_
    refine lv_istore (lv' := [(5, .int (bl + pos)), (6, .int (nI i)), (4, .int pos), (3, .int tp), (2, .ref (a 2))]) hx hb dX3_blowsToCorrect_58 hl (by decide) rfl (fun ls hl => ?_)
    refine lv_aload_n hx hb dX3_blowsToCorrect_60 rfl (lv_at hl 4 rfl) ?_
    refine lv_iload hx hb dX3_blowsToCorrect_61 (lv_at hl 2 rfl) ?_
    refine k_callV (n := 1) (As := [.int pos]) (rest := []) (st1 := [.int (s_X2_positionAfter 1 pos)]) (ws1 := ((x, .inr (3, [.ref (a 0), .ref sv, .ref tl, .ref er, .int sc])) :: (er, .inl (cI, 3, .inl z)) :: stW cI a r e ([]))) S G (c_X2_positionAfter l D cI cS (a 2) 1 (r 9) (r 10) (r 11) (r 12) (r 13) pos) gX3_blowsToCorrect_X2_positionAfter rfl (by decide +kernel) ⟨⟨rfl, rfl⟩, Nat.le_of_ble_eq_true rfl, Nat.le_of_ble_eq_true rfl⟩ [4] (by decide) rfl [(a 2)] rfl rfl 4 rfl rfl rfl hl.1 rfl (Nat.le_of_ble_eq_true rfl) ⟨Nat.zero_le _, Nat.zero_le _⟩ dX3_blowsToCorrect_63 rfl rfl (fun H locs G => ?_)
    refine lv_istore (lv' := [(4, .int (s_X2_positionAfter 1 pos)), (5, .int (bl + pos)), (6, .int (nI i)), (3, .int tp), (2, .ref (a 2))]) hx hb dX3_blowsToCorrect_66 hl (by decide) rfl (fun ls hl => ?_)
    refine lv_iinc (v := (nI (i + 1))) (lv' := [(6, .int (nI (i + 1))), (4, .int (s_X2_positionAfter 1 pos)), (5, .int (bl + pos)), (3, .int tp), (2, .ref (a 2))]) hx hb dX3_blowsToCorrect_68 hl (k := 2) rfl (nI_1 i) (by decide) rfl (fun ls hl => ?_)
    refine lv_goto (tgt := 47) hx hb dX3_blowsToCorrect_71 (by decide) ?_
    exact ih (i + 1) (s_X2_positionAfter 1 pos) (bl + pos) (by omega) hk _ _ ls G (lv_sub hl [0, 2, 1, 3, 4] rfl)
def s_X3_blowsToCorrect (z : Nat → Int32) (r : Nat → Int32) (tn : Int32) : Int32 × (Nat → Int32) := (if tn = 0 then ((btcL 0 (s_X2_lagAt 0 (r 4) (r 5) (r 0)).toNatClampNeg (r 5) 0), z) else (if tn = 1 then ((btcL 1 (s_X2_lagAt 1 (r 9) (r 10) (r 0)).toNatClampNeg (r 10) 0), z) else ((-2), (upd z 0 ((z 0) + 1)))))
set_option maxHeartbeats 4000000 in
set_option maxRecDepth 100000 in
theorem c_X3_blowsToCorrect (l : Launch) (D : va_G) (cI cS : ClassId) (x : Nat) (sv : Nat) (tl : Nat) (er : Nat) (sc : Int32) (z : Nat → Int32) (a : Nat → Nat) (r : Nat → Int32) (e : Nat → Nat → Int32) (tn : Int32) : Ct l yX3_blowsToCorrect wsX3_blowsToCorrect ({ frames := 6, cells := 0, slots := 0, locals := 200 }) D (tyL cI cS) [.ref x, .int tn] ((x, .inr (3, [.ref (a 0), .ref sv, .ref tl, .ref er, .int sc])) :: (er, .inl (cI, 3, .inl z)) :: stW cI a r e ([])) (some (.int ((s_X3_blowsToCorrect z r tn).1))) ((x, .inr (3, [.ref (a 0), .ref sv, .ref tl, .ref er, .int sc])) :: (er, .inl (cI, 3, .inl ((s_X3_blowsToCorrect z r tn).2))) :: stW cI a r e ([])) := by
  refine Ct.of (cc := cX3_blowsToCorrect) (maxL := 7) (ret := (some .int)) (by decide) rfl (Nat.le_of_ble_eq_true rfl) ?_
  intro p ev s m args below meth c A ls S hr hlk G hl
  have hx := S.1
  have hb := S.2.1
  have hown : s.vm.findClass RX3 = some m.cls := S.2.2.2.1
  have hts := S.2.2.2.2
  have hl : lv_has ls 7 [(0, .ref x), (1, .int tn)] := hl
  have hiX0 : ∀ w ∈ wsX00, w ∈ wsX3_blowsToCorrect := by decide +kernel
  have hiX2 : ∀ w ∈ wsX20, w ∈ wsX3_blowsToCorrect := by decide +kernel
  have hiX3 : ∀ w ∈ wsX30, w ∈ wsX3_blowsToCorrect := by decide +kernel
  have hf10 := hts (.fieldLink RX3 10 "StrikingWork" "now" "LStrikingWork$State;") (by decide +kernel)
  have hf59 := hts (.fieldLink RX3 59 "StrikingWork$Train" "position" "I") (by decide +kernel)
  have hf83 := hts (.fieldLink RX3 83 "StrikingWork$State" "minute" "I") (by decide +kernel)
  by_cases c_1 : tn = 0
  · skip
    have hl : lv_has ls 7 [(0, .ref x), (1, .int 0)] := by rw [← c_1]; exact hl
    refine lv_iload_n hx hb dX3_blowsToCorrect_0 rfl (lv_at hl 1 rfl) ?_
    refine k_callS (n := 1) (As := [.int 0]) (rest := []) (st1 := [.int 1]) (ws1 := ((x, .inr (3, [.ref (a 0), .ref sv, .ref tl, .ref er, .int sc])) :: (er, .inl (cI, 3, .inl z)) :: stW cI a r e ([]))) S G (c_X3_isTrain l D cI cS 0) gX3_blowsToCorrect_X3_isTrain rfl (by decide +kernel) ⟨⟨rfl, rfl⟩, Nat.le_of_ble_eq_true rfl, Nat.le_of_ble_eq_true rfl⟩ [] (by decide) rfl [] rfl rfl rfl hl.1 rfl (Nat.le_of_ble_eq_true rfl) ⟨Nat.zero_le _, Nat.zero_le _⟩ dX3_blowsToCorrect_1 (congrArg (fun z => Value.int z :: []) (by decide : (s_X3_isTrain 0) = 1)) rfl (fun H locs G => ?_)
    refine lv_if_ne (tgt := 14) hx hb dX3_blowsToCorrect_4 (by decide) (fun c_2 => ?_) (fun c_2 => absurd c_2 (by decide))
    refine lv_aload_n hx hb dX3_blowsToCorrect_14 rfl (lv_at hl 0 rfl) ?_
    refine k_get (v := .ref (a 0)) S G 0 rfl rfl hiX3 0 (by decide) hf10 rfl dX3_blowsToCorrect_15 ?_
    refine lv_iload_n hx hb dX3_blowsToCorrect_18 rfl (lv_at hl 1 rfl) ?_
    refine k_callV (n := 1) (As := [.int 0]) (rest := []) (st1 := [.ref (a 1)]) (ws1 := ((x, .inr (3, [.ref (a 0), .ref sv, .ref tl, .ref er, .int sc])) :: (er, .inl (cI, 3, .inl z)) :: stW cI a r e ([]))) S G (c_X0_trainOf_0 l D cI cS a r e) gX3_blowsToCorrect_X0_trainOf rfl (by decide +kernel) ⟨⟨rfl, rfl⟩, Nat.le_of_ble_eq_true rfl, Nat.le_of_ble_eq_true rfl⟩ [2, 3, 4, 5, 6, 7, 8] (by decide) rfl [(a 0), (a 1), (a 2), (a 3), (a 4), (a 5), (a 6)] rfl rfl 2 rfl rfl rfl hl.1 rfl (Nat.le_of_ble_eq_true rfl) ⟨Nat.zero_le _, Nat.zero_le _⟩ dX3_blowsToCorrect_19 rfl rfl (fun H locs G => ?_)
    refine lv_astore_n (lv' := [(2, .ref (a 1)), (0, .ref x), (1, .int 0)]) hx hb dX3_blowsToCorrect_22 rfl hl (by decide) rfl (fun ls hl => ?_)
    refine lv_aload_n hx hb dX3_blowsToCorrect_23 rfl (lv_at hl 0 rfl) ?_
    refine lv_aload_n hx hb dX3_blowsToCorrect_24 rfl (lv_at hl 1 rfl) ?_
    refine k_get (v := .ref (a 0)) S G 0 rfl rfl hiX3 0 (by decide) hf10 rfl dX3_blowsToCorrect_25 ?_
    refine k_get (v := .int (r 0)) S G 2 rfl rfl hiX0 3 (by decide) hf83 rfl dX3_blowsToCorrect_28 ?_
    refine k_callV (n := 1) (As := [.int (r 0)]) (rest := []) (st1 := [.int (s_X2_lagAt 0 (r 4) (r 5) (r 0))]) (ws1 := ((x, .inr (3, [.ref (a 0), .ref sv, .ref tl, .ref er, .int sc])) :: (er, .inl (cI, 3, .inl z)) :: stW cI a r e ([]))) S G (c_X2_lagAt l D cI cS (a 1) 0 (r 4) (r 5) (r 6) (r 7) (r 8) (r 0)) gX3_blowsToCorrect_X2_lagAt rfl (by decide +kernel) ⟨⟨rfl, rfl⟩, Nat.le_of_ble_eq_true rfl, Nat.le_of_ble_eq_true rfl⟩ [3] (by decide) rfl [(a 1)] rfl rfl 3 rfl rfl rfl hl.1 rfl (Nat.le_of_ble_eq_true rfl) ⟨Nat.zero_le _, Nat.zero_le _⟩ dX3_blowsToCorrect_31 rfl rfl (fun H locs G => ?_)
    refine lv_istore_n (lv' := [(3, .int (s_X2_lagAt 0 (r 4) (r 5) (r 0))), (2, .ref (a 1)), (0, .ref x), (1, .int 0)]) hx hb dX3_blowsToCorrect_34 rfl hl (by decide) rfl (fun ls hl => ?_)
    refine lv_aload_n hx hb dX3_blowsToCorrect_35 rfl (lv_at hl 1 rfl) ?_
    refine k_get (v := .int (r 5)) S G 3 rfl rfl hiX2 2 (by decide) hf59 rfl dX3_blowsToCorrect_36 ?_
    refine lv_istore (lv' := [(4, .int (r 5)), (3, .int (s_X2_lagAt 0 (r 4) (r 5) (r 0))), (2, .ref (a 1)), (0, .ref x), (1, .int 0)]) hx hb dX3_blowsToCorrect_39 hl (by decide) rfl (fun ls hl => ?_)
    refine lv_iconst (v := 0) hx hb dX3_blowsToCorrect_41 (by decide) ?_
    refine lv_istore (lv' := [(5, .int 0), (4, .int (r 5)), (3, .int (s_X2_lagAt 0 (r 4) (r 5) (r 0))), (2, .ref (a 1)), (0, .ref x), (1, .int 0)]) hx hb dX3_blowsToCorrect_42 hl (by decide) rfl (fun ls hl => ?_)
    refine lv_iconst (v := 0) hx hb dX3_blowsToCorrect_44 (by decide) ?_
    refine lv_istore (lv' := [(6, .int 0), (5, .int 0), (4, .int (r 5)), (3, .int (s_X2_lagAt 0 (r 4) (r 5) (r 0))), (2, .ref (a 1)), (0, .ref x), (1, .int 0)]) hx hb dX3_blowsToCorrect_45 hl (by decide) rfl (fun ls hl => ?_)
    refine lp_X3_btc_0 l D cI cS x sv tl er sc z a r e (s_X2_lagAt 0 (r 4) (r 5) (r 0)) S _ 0 (r 5) 0 (Nat.zero_add _) (fun H locs ls G hl => ?_) _ _ ls G (lv_sub hl [0, 1, 2, 3, 4] rfl)
    refine lv_iload hx hb dX3_blowsToCorrect_74 (lv_at hl 0 rfl) ?_
    have es : (s_X3_blowsToCorrect z r tn) = ((btcL 0 (s_X2_lagAt 0 (r 4) (r 5) (r 0)).toNatClampNeg (r 5) 0), z) := by rw [s_X3_blowsToCorrect, if_pos c_1]
    exact k_iret S G hr hlk dX3_blowsToCorrect_76 (by first | (rw [es]; done) | (rw [es]; rfl) | (simp only [es]; done) | (simp only [es]; rfl)) (by first | (rw [es]; done) | (rw [es]; rfl) | (simp only [es]; done) | (simp only [es]; rfl))
  · skip
    by_cases c_3 : tn = 1
    · skip
      have hl : lv_has ls 7 [(0, .ref x), (1, .int 1)] := by rw [← c_3]; exact hl
      refine lv_iload_n hx hb dX3_blowsToCorrect_0 rfl (lv_at hl 1 rfl) ?_
      refine k_callS (n := 1) (As := [.int 1]) (rest := []) (st1 := [.int 1]) (ws1 := ((x, .inr (3, [.ref (a 0), .ref sv, .ref tl, .ref er, .int sc])) :: (er, .inl (cI, 3, .inl z)) :: stW cI a r e ([]))) S G (c_X3_isTrain l D cI cS 1) gX3_blowsToCorrect_X3_isTrain rfl (by decide +kernel) ⟨⟨rfl, rfl⟩, Nat.le_of_ble_eq_true rfl, Nat.le_of_ble_eq_true rfl⟩ [] (by decide) rfl [] rfl rfl rfl hl.1 rfl (Nat.le_of_ble_eq_true rfl) ⟨Nat.zero_le _, Nat.zero_le _⟩ dX3_blowsToCorrect_1 (congrArg (fun z => Value.int z :: []) (by decide : (s_X3_isTrain 1) = 1)) rfl (fun H locs G => ?_)
      refine lv_if_ne (tgt := 14) hx hb dX3_blowsToCorrect_4 (by decide) (fun c_4 => ?_) (fun c_4 => absurd c_4 (by decide))
      refine lv_aload_n hx hb dX3_blowsToCorrect_14 rfl (lv_at hl 0 rfl) ?_
      refine k_get (v := .ref (a 0)) S G 0 rfl rfl hiX3 0 (by decide) hf10 rfl dX3_blowsToCorrect_15 ?_
      refine lv_iload_n hx hb dX3_blowsToCorrect_18 rfl (lv_at hl 1 rfl) ?_
      refine k_callV (n := 1) (As := [.int 1]) (rest := []) (st1 := [.ref (a 2)]) (ws1 := ((x, .inr (3, [.ref (a 0), .ref sv, .ref tl, .ref er, .int sc])) :: (er, .inl (cI, 3, .inl z)) :: stW cI a r e ([]))) S G (c_X0_trainOf_1 l D cI cS a r e) gX3_blowsToCorrect_X0_trainOf rfl (by decide +kernel) ⟨⟨rfl, rfl⟩, Nat.le_of_ble_eq_true rfl, Nat.le_of_ble_eq_true rfl⟩ [2, 3, 4, 5, 6, 7, 8] (by decide) rfl [(a 0), (a 1), (a 2), (a 3), (a 4), (a 5), (a 6)] rfl rfl 2 rfl rfl rfl hl.1 rfl (Nat.le_of_ble_eq_true rfl) ⟨Nat.zero_le _, Nat.zero_le _⟩ dX3_blowsToCorrect_19 rfl rfl (fun H locs G => ?_)
      refine lv_astore_n (lv' := [(2, .ref (a 2)), (0, .ref x), (1, .int 1)]) hx hb dX3_blowsToCorrect_22 rfl hl (by decide) rfl (fun ls hl => ?_)
      refine lv_aload_n hx hb dX3_blowsToCorrect_23 rfl (lv_at hl 0 rfl) ?_
      refine lv_aload_n hx hb dX3_blowsToCorrect_24 rfl (lv_at hl 1 rfl) ?_
      refine k_get (v := .ref (a 0)) S G 0 rfl rfl hiX3 0 (by decide) hf10 rfl dX3_blowsToCorrect_25 ?_
      refine k_get (v := .int (r 0)) S G 2 rfl rfl hiX0 3 (by decide) hf83 rfl dX3_blowsToCorrect_28 ?_
      refine k_callV (n := 1) (As := [.int (r 0)]) (rest := []) (st1 := [.int (s_X2_lagAt 1 (r 9) (r 10) (r 0))]) (ws1 := ((x, .inr (3, [.ref (a 0), .ref sv, .ref tl, .ref er, .int sc])) :: (er, .inl (cI, 3, .inl z)) :: stW cI a r e ([]))) S G (c_X2_lagAt l D cI cS (a 2) 1 (r 9) (r 10) (r 11) (r 12) (r 13) (r 0)) gX3_blowsToCorrect_X2_lagAt rfl (by decide +kernel) ⟨⟨rfl, rfl⟩, Nat.le_of_ble_eq_true rfl, Nat.le_of_ble_eq_true rfl⟩ [4] (by decide) rfl [(a 2)] rfl rfl 4 rfl rfl rfl hl.1 rfl (Nat.le_of_ble_eq_true rfl) ⟨Nat.zero_le _, Nat.zero_le _⟩ dX3_blowsToCorrect_31 rfl rfl (fun H locs G => ?_)
      refine lv_istore_n (lv' := [(3, .int (s_X2_lagAt 1 (r 9) (r 10) (r 0))), (2, .ref (a 2)), (0, .ref x), (1, .int 1)]) hx hb dX3_blowsToCorrect_34 rfl hl (by decide) rfl (fun ls hl => ?_)
      refine lv_aload_n hx hb dX3_blowsToCorrect_35 rfl (lv_at hl 1 rfl) ?_
      refine k_get (v := .int (r 10)) S G 4 rfl rfl hiX2 2 (by decide) hf59 rfl dX3_blowsToCorrect_36 ?_
      refine lv_istore (lv' := [(4, .int (r 10)), (3, .int (s_X2_lagAt 1 (r 9) (r 10) (r 0))), (2, .ref (a 2)), (0, .ref x), (1, .int 1)]) hx hb dX3_blowsToCorrect_39 hl (by decide) rfl (fun ls hl => ?_)
      refine lv_iconst (v := 0) hx hb dX3_blowsToCorrect_41 (by decide) ?_
      refine lv_istore (lv' := [(5, .int 0), (4, .int (r 10)), (3, .int (s_X2_lagAt 1 (r 9) (r 10) (r 0))), (2, .ref (a 2)), (0, .ref x), (1, .int 1)]) hx hb dX3_blowsToCorrect_42 hl (by decide) rfl (fun ls hl => ?_)
      refine lv_iconst (v := 0) hx hb dX3_blowsToCorrect_44 (by decide) ?_
      refine lv_istore (lv' := [(6, .int 0), (5, .int 0), (4, .int (r 10)), (3, .int (s_X2_lagAt 1 (r 9) (r 10) (r 0))), (2, .ref (a 2)), (0, .ref x), (1, .int 1)]) hx hb dX3_blowsToCorrect_45 hl (by decide) rfl (fun ls hl => ?_)
      refine lp_X3_btc_1 l D cI cS x sv tl er sc z a r e (s_X2_lagAt 1 (r 9) (r 10) (r 0)) S _ 0 (r 10) 0 (Nat.zero_add _) (fun H locs ls G hl => ?_) _ _ ls G (lv_sub hl [0, 1, 2, 3, 4] rfl)
      refine lv_iload hx hb dX3_blowsToCorrect_74 (lv_at hl 0 rfl) ?_
      have es : (s_X3_blowsToCorrect z r tn) = ((btcL 1 (s_X2_lagAt 1 (r 9) (r 10) (r 0)).toNatClampNeg (r 10) 0), z) := by rw [s_X3_blowsToCorrect, if_neg c_1, if_pos c_3]
      exact k_iret S G hr hlk dX3_blowsToCorrect_76 (by first | (rw [es]; done) | (rw [es]; rfl) | (simp only [es]; done) | (simp only [es]; rfl)) (by first | (rw [es]; done) | (rw [es]; rfl) | (simp only [es]; done) | (simp only [es]; rfl))
    · skip
      refine lv_iload_n hx hb dX3_blowsToCorrect_0 rfl (lv_at hl 1 rfl) ?_
      refine k_callS (n := 1) (As := [.int tn]) (rest := []) (st1 := [.int 0]) (ws1 := ((x, .inr (3, [.ref (a 0), .ref sv, .ref tl, .ref er, .int sc])) :: (er, .inl (cI, 3, .inl z)) :: stW cI a r e ([]))) S G (c_X3_isTrain l D cI cS tn) gX3_blowsToCorrect_X3_isTrain rfl (by decide +kernel) ⟨⟨rfl, rfl⟩, Nat.le_of_ble_eq_true rfl, Nat.le_of_ble_eq_true rfl⟩ [] (by decide) rfl [] rfl rfl rfl hl.1 rfl (Nat.le_of_ble_eq_true rfl) ⟨Nat.zero_le _, Nat.zero_le _⟩ dX3_blowsToCorrect_1 (congrArg (fun z => Value.int z :: []) (by rw [s_X3_isTrain, if_neg c_1, if_neg c_3])) rfl (fun H locs G => ?_)
      refine lv_if_ne (tgt := 14) hx hb dX3_blowsToCorrect_4 (by decide) (fun c_5 => absurd c_5 (by decide)) (fun c_5 => ?_)
      refine lv_aload_n hx hb dX3_blowsToCorrect_7 rfl (lv_at hl 0 rfl) ?_
      refine lv_bipush (v := (-2)) hx hb dX3_blowsToCorrect_8 (by decide) ?_
      refine k_callV (n := 1) (As := [.int (-2)]) (rest := []) (st1 := [.int (-2)]) (ws1 := ((x, .inr (3, [.ref (a 0), .ref sv, .ref tl, .ref er, .int sc])) :: (er, .inl (cI, 3, .inl (upd z 0 ((z 0) + 1)))) :: stW cI a r e ([]))) S G (c_X3_refuse_2 l D cI cS (a 0) x sv tl er sc z) gX3_blowsToCorrect_X3_refuse rfl (by decide +kernel) ⟨⟨rfl, rfl⟩, Nat.le_of_ble_eq_true rfl, Nat.le_of_ble_eq_true rfl⟩ [0, 1] (by decide) rfl [x, er] rfl rfl 0 rfl rfl rfl hl.1 rfl (Nat.le_of_ble_eq_true rfl) ⟨Nat.zero_le _, Nat.zero_le _⟩ dX3_blowsToCorrect_10 rfl rfl (fun H locs G => ?_)
      have es : (s_X3_blowsToCorrect z r tn) = ((-2), (upd z 0 ((z 0) + 1))) := by rw [s_X3_blowsToCorrect, if_neg c_1, if_neg c_3]
      exact k_iret S G hr hlk dX3_blowsToCorrect_13 (by first | (rw [es]; done) | (rw [es]; rfl) | (simp only [es]; done) | (simp only [es]; rfl)) (by first | (rw [es]; done) | (rw [es]; rfl) | (simp only [es]; done) | (simp only [es]; rfl))
/-- the quarters of a run: fuel n, from k minutes behind the start on -/
def runL (st : Int32) (M : Nat) : Nat → Nat → (Nat → Int32) → (Nat → Nat → Int32) → Int32 → Int32 × (Nat → Int32) × (Nat → Nat → Int32)
  | 0, _, r, e, hd => (hd, r, e)
  | n + 1, k, r, e, hd => if M < k then (hd, r, e) else runL st M n (k + 15) (s_X3_strikeQuarter (upd r 0 (irem (st + nI k) 1440)) e).2.1 (s_X3_strikeQuarter (upd r 0 (irem (st + nI k) 1440)) e).2.2 (hd + (s_X3_strikeQuarter (upd r 0 (irem (st + nI k) 1440)) e).1)
def mnOk (q : Int32) : Prop := 0 ≤ q ∧ q ≤ 1440
theorem mnOk_nat {q : Int32} (h : mnOk q) : ∃ N : Nat, N ≤ 1440 ∧ q = nI N := nI_of2 (M := 1440) (by decide) (Int32.not_lt.mpr h.1) h.2
set_option maxHeartbeats 4000000 in
set_option maxRecDepth 100000 in
theorem lp_X3_run (l : Launch) (D : va_G) (cI cS : ClassId) (x : Nat) (sv : Nat) (tl : Nat) (er : Nat) (sc : Int32) (z : Nat → Int32) (a : Nat → Nat) (n0 : Int32) (m0 : Int32) (p0 : Int32) (w0 : Int32) (s0 : Int32) (f0 : Int32) (sa : Nat → Nat → Nat) (sr : Nat → Nat → Int32) (se : Nat → Nat → Nat → Int32) (q : Int32) (st : Int32) (M : Nat) {p : Program} {ev : Env} {s : State} {m : MethodId} {args : Array Value} {below : List Frame} {meth : Method} {c : Code} {A : Nat → Prop} {Q : State → Prop} (S : CallFix p m c cX3_run 5 s args wsX3_run RX3)  :
    q = nI M → M ≤ 1440 → ∀ (n k : Nat) (r : Nat → Int32) (e : Nat → Nat → Int32) (hd : Int32), M < k + 15 * n → k ≤ 2000 → (∀ (H : Heap) (locs : List Loc) (ls : Array Slot), Gd D (tyL cI cS) A s.heap s ((x, .inr (3, [.ref (a 0), .ref sv, .ref tl, .ref er, .int sc])) :: (er, .inl (cI, 3, .inl z)) :: stW cI a ((runL st M n k r e hd).2.1) ((runL st M n k r e hd).2.2) ((tl, .inr (2, [.int n0, .int m0, .int p0, .int w0, .int s0, .int f0])) :: (sv, .inl (cS, 5, .inr (.inr (.inr (.inr (fun i => some (sa i 0))))))) :: svW cI sa sr se ([]))) H locs → lv_has ls 5 [(3, .int (runL st M n k r e hd).1), (2, .int st), (1, .int q), (0, .ref x)] → W p l ev ({ frames := 6, cells := 0, slots := 0, locals := 250 }) s m args below meth c H locs 0 0 Q (F0 m 75 ls [])) → ∀ (H : Heap) (locs : List Loc) (ls : Array Slot), Gd D (tyL cI cS) A s.heap s ((x, .inr (3, [.ref (a 0), .ref sv, .ref tl, .ref er, .int sc])) :: (er, .inl (cI, 3, .inl z)) :: stW cI a r e ((tl, .inr (2, [.int n0, .int m0, .int p0, .int w0, .int s0, .int f0])) :: (sv, .inl (cS, 5, .inr (.inr (.inr (.inr (fun i => some (sa i 0))))))) :: svW cI sa sr se ([]))) H locs → lv_has ls 5 [(4, .int (nI k)), (3, .int hd), (2, .int st), (1, .int q), (0, .ref x)] → W p l ev ({ frames := 6, cells := 0, slots := 0, locals := 250 }) s m args below meth c H locs 0 0 Q (F0 m 41 ls []) := by
  have hx := S.1
  have hb := S.2.1
  have hown : s.vm.findClass RX3 = some m.cls := S.2.2.2.1
  have hts := S.2.2.2.2
  have hiX0 : ∀ w ∈ wsX00, w ∈ wsX3_run := by decide +kernel
  have hiX3 : ∀ w ∈ wsX30, w ∈ wsX3_run := by decide +kernel
  have hf10 := hts (.fieldLink RX3 10 "StrikingWork" "now" "LStrikingWork$State;") (by decide +kernel)
  have hf83 := hts (.fieldLink RX3 83 "StrikingWork$State" "minute" "I") (by decide +kernel)
  intro hq hM n
  induction n with
  | zero =>
    intro k r e hd hf hk2 hk H locs ls G hl
    refine lv_iload hx hb dX3_run_41 (lv_at hl 0 rfl) ?_
    refine lv_iload_n hx hb dX3_run_43 rfl (lv_at hl 3 rfl) ?_
    refine lv_icmp_gt (tgt := 75) hx hb dX3_run_44 (by decide) (fun c_1 => ?_) (fun c_1 => absurd (show q < nI k by rw [hq]; exact nI_lt (by omega) (by omega)) c_1)
    exact hk _ _ ls G (lv_sub hl [1, 2, 3, 4] rfl)
  | succ n ih =>
    intro k r e hd hf hk2 hk H locs ls G hl
    rcases Nat.lt_or_ge M k with hlt | hge
    · skip
      refine lv_iload hx hb dX3_run_41 (lv_at hl 0 rfl) ?_
      refine lv_iload_n hx hb dX3_run_43 rfl (lv_at hl 3 rfl) ?_
      refine lv_icmp_gt (tgt := 75) hx hb dX3_run_44 (by decide) (fun c_1 => ?_) (fun c_1 => absurd (show q < nI k by rw [hq]; exact nI_lt (by omega) (by omega)) c_1)
      have eL : runL st M (n + 1) k r e hd = (hd, r, e) := by rw [runL, if_pos hlt]
      rw [eL] at hk
      exact hk _ _ ls G (lv_sub hl [1, 2, 3, 4] rfl)
    · skip
      refine lv_iload hx hb dX3_run_41 (lv_at hl 0 rfl) ?_
      refine lv_iload_n hx hb dX3_run_43 rfl (lv_at hl 3 rfl) ?_
      refine lv_icmp_gt (tgt := 75) hx hb dX3_run_44 (by decide) (fun c_1 => absurd c_1 (show ¬ q < nI k by rw [hq]; exact nI_nlt hge (by omega))) (fun c_1 => ?_)
      refine lv_aload_n hx hb dX3_run_47 rfl (lv_at hl 4 rfl) ?_
      refine k_get (v := .ref (a 0)) S G 0 rfl rfl hiX3 0 (by decide) hf10 rfl dX3_run_48 ?_
      refine lv_iload_n hx hb dX3_run_51 rfl (lv_at hl 2 rfl) ?_
      refine lv_iload hx hb dX3_run_52 (lv_at hl 0 rfl) ?_
      refine lv_iadd hx hb dX3_run_54 ?_
      refine lv_sipush (v := 1440) hx hb dX3_run_55 (by decide) ?_
      refine lv_irem hx hb dX3_run_58 (by decide) ?_
      refine lv_lit (v := (irem (st + (nI k)) 1440)) rfl ?_
      refine k_put (ws1 := ((x, .inr (3, [.ref (a 0), .ref sv, .ref tl, .ref er, .int sc])) :: (er, .inl (cI, 3, .inl z)) :: stW cI a (upd r 0 (irem (st + (nI k)) 1440)) e ((tl, .inr (2, [.int n0, .int m0, .int p0, .int w0, .int s0, .int f0])) :: (sv, .inl (cS, 5, .inr (.inr (.inr (.inr (fun i => some (sa i 0))))))) :: svW cI sa sr se ([])))) S G 2 rfl rfl hiX0 tyX0 tyX0_ok nmX0 3 (by decide) hf83 rfl rfl rfl (Nat.le_of_ble_eq_true rfl) dX3_run_59 rfl (fun H locs G => ?_)
      refine lv_iload_n hx hb dX3_run_62 rfl (lv_at hl 1 rfl) ?_
      refine lv_aload_n hx hb dX3_run_63 rfl (lv_at hl 4 rfl) ?_
      refine k_callV (n := 0) (As := []) (rest := [.int hd]) (st1 := [.int ((s_X3_strikeQuarter (upd r 0 (irem (st + (nI k)) 1440)) e).1), .int hd]) (ws1 := ((x, .inr (3, [.ref (a 0), .ref sv, .ref tl, .ref er, .int sc])) :: (er, .inl (cI, 3, .inl z)) :: stW cI a ((s_X3_strikeQuarter (upd r 0 (irem (st + (nI k)) 1440)) e).2.1) ((s_X3_strikeQuarter (upd r 0 (irem (st + (nI k)) 1440)) e).2.2) ((tl, .inr (2, [.int n0, .int m0, .int p0, .int w0, .int s0, .int f0])) :: (sv, .inl (cS, 5, .inr (.inr (.inr (.inr (fun i => some (sa i 0))))))) :: svW cI sa sr se ([])))) S G (c_X3_strikeQuarter l D cI cS x sv tl er sc z a (upd r 0 (irem (st + (nI k)) 1440)) e) gX3_run_X3_strikeQuarter rfl (by decide +kernel) ⟨⟨rfl, rfl⟩, Nat.le_of_ble_eq_true rfl, Nat.le_of_ble_eq_true rfl⟩ [0, 1, 2, 3, 4, 5, 6, 7, 8] (by decide) rfl [x, er, (a 0), (a 1), (a 2), (a 3), (a 4), (a 5), (a 6)] rfl rfl 0 rfl rfl rfl hl.1 rfl (Nat.le_of_ble_eq_true rfl) ⟨Nat.zero_le _, Nat.zero_le _⟩ dX3_run_64 rfl rfl (fun H locs G => ?_)
      generalize hu1 : (s_X3_strikeQuarter (upd r 0 (irem (st + (nI k)) 1440)) e) = u1 at G ⊢
      refine lv_iadd hx hb dX3_run_67 ?_
      refine lv_istore_n (lv' := [(3, .int (hd + u1.1)), (4, .int (nI k)), (2, .int st), (1, .int q), (0, .ref x)]) hx hb dX3_run_68 rfl hl (by decide) rfl (fun ls hl => ?_)
      refine lv_iinc (v := (nI (k + 15))) (lv' := [(4, .int (nI (k + 15))), (3, .int (hd + u1.1)), (2, .int st), (1, .int q), (0, .ref x)]) hx hb dX3_run_69 hl (k := 1) rfl (nI_add k 15) (by decide) rfl (fun ls hl => ?_)
      refine lv_goto (tgt := 41) hx hb dX3_run_72 (by decide) ?_
      have eL : runL st M (n + 1) k r e hd = runL st M n (k + 15) u1.2.1 u1.2.2 (hd + u1.1) := by rw [runL, if_neg (Nat.not_lt.mpr hge), hu1]
      rw [eL] at hk
      exact ih (k + 15) u1.2.1 u1.2.2 (hd + u1.1) (by omega) (by omega) hk _ _ ls G (lv_sub hl [0, 1, 2, 3, 4] rfl)
/-- the first quarter behind a minute -/
def k0f (m : Int32) : Nat := (15 - irem m 15).toNatClampNeg
theorem k0_of {m : Int32} (h : 0 ≤ m ∧ m < 1440) : ∃ k : Nat, k ≤ 15 ∧ 15 - irem m 15 = nI k := by
  obtain ⟨N, hN, rfl⟩ := nI_of (Int32.not_lt.mpr h.1)
  have e : irem (nI N) 15 = nI (N % 15) := pk_rem hN (by decide) (by decide)
  rw [e]
  exact ⟨15 - N % 15, by omega, pk_sub (a := 15) (by omega)⟩
def s_X3_run (sc : Int32) (z : Nat → Int32) (r : Nat → Int32) (e : Nat → Nat → Int32) (sa : Nat → Nat → Nat) (sr : Nat → Nat → Int32) (se : Nat → Nat → Nat → Int32) (q : Int32) : Int32 × Int32 × (Nat → Int32) × (Nat → Int32) × (Nat → Nat → Int32) × (Nat → Nat → Nat) × (Nat → Nat → Int32) × (Nat → Nat → Nat → Int32) := (if q < 0 then ((-2), sc, (upd z 0 ((z 0) + 1)), r, e, sa, sr, se) else (if q ≤ 1440 then ((runL (r 0) q.toNatClampNeg 100 (k0f (r 0)) r e 0).1, (sSc sc), z, (upd (runL (r 0) q.toNatClampNeg 100 (k0f (r 0)) r e 0).2.1 0 (irem ((r 0) + q) 1440)), (runL (r 0) q.toNatClampNeg 100 (k0f (r 0)) r e 0).2.2, (sSa sc sa), (sSr sc sr r), (sSe sc se e)) else ((-2), sc, (upd z 0 ((z 0) + 1)), r, e, sa, sr, se)))
set_option maxHeartbeats 4000000 in
set_option maxRecDepth 100000 in
theorem c_X3_run (l : Launch) (D : va_G) (cI cS : ClassId) (x : Nat) (sv : Nat) (tl : Nat) (er : Nat) (sc : Int32) (z : Nat → Int32) (a : Nat → Nat) (r : Nat → Int32) (e : Nat → Nat → Int32) (n0 : Int32) (m0 : Int32) (p0 : Int32) (w0 : Int32) (s0 : Int32) (f0 : Int32) (sa : Nat → Nat → Nat) (sr : Nat → Nat → Int32) (se : Nat → Nat → Nat → Int32) (q : Int32) (hsc : scOk sc) (hr0 : ∀ (h1 : ¬ q < 0) (h2 : q ≤ 1440), 0 ≤ r 0 ∧ r 0 < 1440) : Ct l yX3_run wsX3_run ({ frames := 6, cells := 0, slots := 0, locals := 250 }) D (tyL cI cS) [.ref x, .int q] ((x, .inr (3, [.ref (a 0), .ref sv, .ref tl, .ref er, .int sc])) :: (er, .inl (cI, 3, .inl z)) :: stW cI a r e ((tl, .inr (2, [.int n0, .int m0, .int p0, .int w0, .int s0, .int f0])) :: (sv, .inl (cS, 5, .inr (.inr (.inr (.inr (fun i => some (sa i 0))))))) :: svW cI sa sr se ([]))) (some (.int ((s_X3_run sc z r e sa sr se q).1))) ((x, .inr (3, [.ref (a 0), .ref sv, .ref tl, .ref er, .int ((s_X3_run sc z r e sa sr se q).2.1)])) :: (er, .inl (cI, 3, .inl ((s_X3_run sc z r e sa sr se q).2.2.1))) :: stW cI a ((s_X3_run sc z r e sa sr se q).2.2.2.1) ((s_X3_run sc z r e sa sr se q).2.2.2.2.1) ((tl, .inr (2, [.int n0, .int m0, .int p0, .int w0, .int s0, .int f0])) :: (sv, .inl (cS, 5, .inr (.inr (.inr (.inr (fun i => some (((s_X3_run sc z r e sa sr se q).2.2.2.2.2.1) i 0))))))) :: svW cI ((s_X3_run sc z r e sa sr se q).2.2.2.2.2.1) ((s_X3_run sc z r e sa sr se q).2.2.2.2.2.2.1) ((s_X3_run sc z r e sa sr se q).2.2.2.2.2.2.2) ([]))) := by
  refine Ct.of (cc := cX3_run) (maxL := 5) (ret := (some .int)) (by decide) rfl (Nat.le_of_ble_eq_true rfl) ?_
  intro p ev s m args below meth c A ls S hr hlk G hl
  have hx := S.1
  have hb := S.2.1
  have hown : s.vm.findClass RX3 = some m.cls := S.2.2.2.1
  have hts := S.2.2.2.2
  have hl : lv_has ls 5 [(0, .ref x), (1, .int q)] := hl
  have hiX0 : ∀ w ∈ wsX00, w ∈ wsX3_run := by decide +kernel
  have hiX3 : ∀ w ∈ wsX30, w ∈ wsX3_run := by decide +kernel
  have hf10 := hts (.fieldLink RX3 10 "StrikingWork" "now" "LStrikingWork$State;") (by decide +kernel)
  have hf83 := hts (.fieldLink RX3 83 "StrikingWork$State" "minute" "I") (by decide +kernel)
  refine lv_iload_n hx hb dX3_run_0 rfl (lv_at hl 1 rfl) ?_
  refine lv_if_lt (tgt := 11) hx hb dX3_run_1 (by decide) (fun c_1 => ?_) (fun c_1 => ?_)
  · skip
    refine lv_aload_n hx hb dX3_run_11 rfl (lv_at hl 0 rfl) ?_
    refine lv_bipush (v := (-2)) hx hb dX3_run_12 (by decide) ?_
    refine k_callV (n := 1) (As := [.int (-2)]) (rest := []) (st1 := [.int (-2)]) (ws1 := ((x, .inr (3, [.ref (a 0), .ref sv, .ref tl, .ref er, .int sc])) :: (er, .inl (cI, 3, .inl (upd z 0 ((z 0) + 1)))) :: stW cI a r e ((tl, .inr (2, [.int n0, .int m0, .int p0, .int w0, .int s0, .int f0])) :: (sv, .inl (cS, 5, .inr (.inr (.inr (.inr (fun i => some (sa i 0))))))) :: svW cI sa sr se ([])))) S G (c_X3_refuse_2 l D cI cS (a 0) x sv tl er sc z) gX3_run_X3_refuse rfl (by decide +kernel) ⟨⟨rfl, rfl⟩, Nat.le_of_ble_eq_true rfl, Nat.le_of_ble_eq_true rfl⟩ [0, 1] (by decide) rfl [x, er] rfl rfl 0 rfl rfl rfl hl.1 rfl (Nat.le_of_ble_eq_true rfl) ⟨Nat.zero_le _, Nat.zero_le _⟩ dX3_run_14 rfl rfl (fun H locs G => ?_)
    have es : (s_X3_run sc z r e sa sr se q) = ((-2), sc, (upd z 0 ((z 0) + 1)), r, e, sa, sr, se) := by rw [s_X3_run, if_pos c_1]
    exact k_iret S G hr hlk dX3_run_17 (by first | (rw [es]; done) | (rw [es]; rfl) | (simp only [es]; done) | (simp only [es]; rfl)) (by first | (rw [es]; done) | (rw [es]; rfl) | (simp only [es]; done) | (simp only [es]; rfl))
  · skip
    refine lv_iload_n hx hb dX3_run_4 rfl (lv_at hl 1 rfl) ?_
    refine lv_sipush (v := 1440) hx hb dX3_run_5 (by decide) ?_
    refine lv_icmp_le (tgt := 18) hx hb dX3_run_8 (by decide) (fun c_2 => ?_) (fun c_2 => ?_)
    · skip
      refine lv_aload_n hx hb dX3_run_18 rfl (lv_at hl 0 rfl) ?_
      refine k_callA (n := 0) (As := []) (rest := []) (st1 := []) (ws1 := ((x, .inr (3, [.ref (a 0), .ref sv, .ref tl, .ref er, .int (sSc sc)])) :: (er, .inl (cI, 3, .inl z)) :: stW cI a r e ((tl, .inr (2, [.int n0, .int m0, .int p0, .int w0, .int s0, .int f0])) :: (sv, .inl (cS, 5, .inr (.inr (.inr (.inr (fun i => some ((sSa sc sa) i 0))))))) :: svW cI (sSa sc sa) (sSr sc sr r) (sSe sc se e) ([])))) S G (c_X3_save l D cI cS x sv tl er sc z a r e n0 m0 p0 w0 s0 f0 sa sr se hsc) gX3_run_X3_save rfl (by decide +kernel) ⟨⟨rfl, rfl⟩, Nat.le_of_ble_eq_true rfl, Nat.le_of_ble_eq_true rfl⟩ 0 rfl rfl rfl hl.1 rfl (Nat.le_of_ble_eq_true rfl) ⟨Nat.zero_le _, Nat.zero_le _⟩ dX3_run_19 rfl rfl (fun H locs G => ?_)
      refine lv_aload_n hx hb dX3_run_22 rfl (lv_at hl 0 rfl) ?_
      refine k_get (v := .ref (a 0)) S G 0 rfl rfl hiX3 0 (by decide) hf10 rfl dX3_run_23 ?_
      refine k_get (v := .int (r 0)) S G 2 rfl rfl hiX0 3 (by decide) hf83 rfl dX3_run_26 ?_
      refine lv_istore_n (lv' := [(2, .int (r 0)), (0, .ref x), (1, .int q)]) hx hb dX3_run_29 rfl hl (by decide) rfl (fun ls hl => ?_)
      refine lv_iconst (v := 0) hx hb dX3_run_30 (by decide) ?_
      refine lv_istore_n (lv' := [(3, .int 0), (2, .int (r 0)), (0, .ref x), (1, .int q)]) hx hb dX3_run_31 rfl hl (by decide) rfl (fun ls hl => ?_)
      refine lv_bipush (v := 15) hx hb dX3_run_32 (by decide) ?_
      refine lv_iload_n hx hb dX3_run_34 rfl (lv_at hl 1 rfl) ?_
      refine lv_bipush (v := 15) hx hb dX3_run_35 (by decide) ?_
      refine lv_irem hx hb dX3_run_37 (by decide) ?_
      refine lv_lit (v := (irem (r 0) 15)) rfl ?_
      refine lv_isub hx hb dX3_run_38 ?_
      refine lv_istore (lv' := [(4, .int (15 - (irem (r 0) 15))), (3, .int 0), (2, .int (r 0)), (0, .ref x), (1, .int q)]) hx hb dX3_run_39 hl (by decide) rfl (fun ls hl => ?_)
      obtain ⟨M, hM, hq⟩ := mnOk_nat (show mnOk q from ⟨Int32.not_lt.mp c_1, c_2⟩)
      obtain ⟨k0, hk0, ek0⟩ := k0_of (hr0 c_1 c_2)
      rw [ek0] at hl
      refine lp_X3_run l D cI cS x sv tl er (sSc sc) z a n0 m0 p0 w0 s0 f0 (sSa sc sa) (sSr sc sr r) (sSe sc se e) q (r 0) M S hq hM 100 k0 r e 0 (by omega) (by omega) (fun H locs ls G hl => ?_) _ _ ls G (lv_sub hl [0, 1, 2, 4, 3] rfl)
      have eM : M = q.toNatClampNeg := by rw [hq, nI_clamp (by omega)]
      have eK : k0 = k0f (r 0) := by rw [k0f, ek0, nI_clamp (by omega)]
      rw [eM, eK] at G hl
      generalize hu0 : (runL (r 0) q.toNatClampNeg 100 (k0f (r 0)) r e 0) = u0 at G hl ⊢
      refine lv_aload_n hx hb dX3_run_75 rfl (lv_at hl 3 rfl) ?_
      refine k_get (v := .ref (a 0)) S G 0 rfl rfl hiX3 0 (by decide) hf10 rfl dX3_run_76 ?_
      refine lv_iload_n hx hb dX3_run_79 rfl (lv_at hl 1 rfl) ?_
      refine lv_iload_n hx hb dX3_run_80 rfl (lv_at hl 2 rfl) ?_
      refine lv_iadd hx hb dX3_run_81 ?_
      refine lv_sipush (v := 1440) hx hb dX3_run_82 (by decide) ?_
      refine lv_irem hx hb dX3_run_85 (by decide) ?_
      refine lv_lit (v := (irem ((r 0) + q) 1440)) rfl ?_
      refine k_put (ws1 := ((x, .inr (3, [.ref (a 0), .ref sv, .ref tl, .ref er, .int (sSc sc)])) :: (er, .inl (cI, 3, .inl z)) :: stW cI a (upd u0.2.1 0 (irem ((r 0) + q) 1440)) u0.2.2 ((tl, .inr (2, [.int n0, .int m0, .int p0, .int w0, .int s0, .int f0])) :: (sv, .inl (cS, 5, .inr (.inr (.inr (.inr (fun i => some ((sSa sc sa) i 0))))))) :: svW cI (sSa sc sa) (sSr sc sr r) (sSe sc se e) ([])))) S G 2 rfl rfl hiX0 tyX0 tyX0_ok nmX0 3 (by decide) hf83 rfl rfl rfl (Nat.le_of_ble_eq_true rfl) dX3_run_86 rfl (fun H locs G => ?_)
      refine lv_iload_n hx hb dX3_run_89 rfl (lv_at hl 0 rfl) ?_
      have es : (s_X3_run sc z r e sa sr se q) = (u0.1, (sSc sc), z, (upd u0.2.1 0 (irem ((r 0) + q) 1440)), u0.2.2, (sSa sc sa), (sSr sc sr r), (sSe sc se e)) := by rw [s_X3_run, hu0, if_neg c_1, if_pos c_2]
      exact k_iret S G hr hlk dX3_run_90 (by first | (rw [es]; done) | (rw [es]; rfl) | (simp only [es]; done) | (simp only [es]; rfl)) (by first | (rw [es]; done) | (rw [es]; rfl) | (simp only [es]; done) | (simp only [es]; rfl))
    · skip
      refine lv_aload_n hx hb dX3_run_11 rfl (lv_at hl 0 rfl) ?_
      refine lv_bipush (v := (-2)) hx hb dX3_run_12 (by decide) ?_
      refine k_callV (n := 1) (As := [.int (-2)]) (rest := []) (st1 := [.int (-2)]) (ws1 := ((x, .inr (3, [.ref (a 0), .ref sv, .ref tl, .ref er, .int sc])) :: (er, .inl (cI, 3, .inl (upd z 0 ((z 0) + 1)))) :: stW cI a r e ((tl, .inr (2, [.int n0, .int m0, .int p0, .int w0, .int s0, .int f0])) :: (sv, .inl (cS, 5, .inr (.inr (.inr (.inr (fun i => some (sa i 0))))))) :: svW cI sa sr se ([])))) S G (c_X3_refuse_2 l D cI cS (a 0) x sv tl er sc z) gX3_run_X3_refuse rfl (by decide +kernel) ⟨⟨rfl, rfl⟩, Nat.le_of_ble_eq_true rfl, Nat.le_of_ble_eq_true rfl⟩ [0, 1] (by decide) rfl [x, er] rfl rfl 0 rfl rfl rfl hl.1 rfl (Nat.le_of_ble_eq_true rfl) ⟨Nat.zero_le _, Nat.zero_le _⟩ dX3_run_14 rfl rfl (fun H locs G => ?_)
      have es : (s_X3_run sc z r e sa sr se q) = ((-2), sc, (upd z 0 ((z 0) + 1)), r, e, sa, sr, se) := by rw [s_X3_run, if_neg c_1, if_neg c_2]
      exact k_iret S G hr hlk dX3_run_17 (by first | (rw [es]; done) | (rw [es]; rfl) | (simp only [es]; done) | (simp only [es]; rfl)) (by first | (rw [es]; done) | (rw [es]; rfl) | (simp only [es]; done) | (simp only [es]; rfl))
