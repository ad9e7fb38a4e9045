set_option maxHeartbeats 4000000 in
set_option maxRecDepth 100000 in
theorem c_X4_mix (l : Launch) (D : va_G) (cI cS : ClassId) (y : Nat) (nw : Nat) (ad : Nat) (pa : Nat) (eA : Nat) (sn : Int32) (hs : Int64) (f : Nat → Int32) (g : Nat → Int32) (pf : Nat → Int32) (z : Nat → Int32) (v : Int64) : Ct l yX4_mix wsX4_mix ({ frames := 0, cells := 0, slots := 0, locals := 0 }) D (tyL cI cS) [.ref y, .long v] [(y, .inr (4, [.ref nw, .ref ad, .ref pa, .int sn, .ref eA, .long hs])), (nw, .inl (cI, 39, .inl f)), (ad, .inl (cI, 39, .inl g)), (pa, .inl (cI, 195, .inl pf)), (eA, .inl (cI, 3, .inl z))] none [(y, .inr (4, [.ref nw, .ref ad, .ref pa, .int sn, .ref eA, .long ((31 * hs) + v)])), (nw, .inl (cI, 39, .inl f)), (ad, .inl (cI, 39, .inl g)), (pa, .inl (cI, 195, .inl pf)), (eA, .inl (cI, 3, .inl z))] := by
  refine Ct.of (cc := cX4_mix) (maxL := 3) (ret := none) (by decide) rfl (Nat.le_of_ble_eq_true rfl) ?_
  intro p ev s m args below meth c A ls S hr hlk G hl
  have hx := S.1
  have hb := S.2.1
  have hown : s.vm.findClass RX4 = some m.cls := S.2.2.2.1
  have hts := S.2.2.2.2
  have hl : lv_has ls 3 [(0, .ref y), (1, .long v)] := hl
  have hiX4 : ∀ w ∈ wsX40, w ∈ wsX4_mix := by decide +kernel
  have hf88 := hts (.fieldLink RX4 88 "StrikingWorkModel" "hash" "J") (by decide +kernel)
  have hk86 := hts (.constantLong RX4 86 31) (by decide +kernel)
  refine lv_aload_n hx hb dX4_mix_0 rfl (lv_at hl 0 rfl) ?_
  refine lv_ldc2 (v := 31) hx hb hown hk86 dX4_mix_1 ?_
  refine lv_aload_n hx hb dX4_mix_4 rfl (lv_at hl 0 rfl) ?_
  refine k_get (v := .long hs) S G 0 rfl rfl hiX4 5 (by decide) hf88 rfl dX4_mix_5 ?_
  refine lv_lmul hx hb dX4_mix_8 ?_
  refine lv_lload_n hx hb dX4_mix_9 rfl (lv_at hl 1 rfl) ?_
  refine lv_ladd hx hb dX4_mix_10 ?_
  refine k_put (ws1 := [(y, .inr (4, [.ref nw, .ref ad, .ref pa, .int sn, .ref eA, .long ((31 * hs) + v)])), (nw, .inl (cI, 39, .inl f)), (ad, .inl (cI, 39, .inl g)), (pa, .inl (cI, 195, .inl pf)), (eA, .inl (cI, 3, .inl z))]) S G 0 rfl rfl hiX4 tyX4 tyX4_ok nmX4 5 (by decide) hf88 rfl rfl rfl (Nat.le_of_ble_eq_true rfl) dX4_mix_11 rfl (fun H locs G => ?_)
  exact k_vret S G hr hlk dX4_mix_14 rfl
def hashM (f : Nat → Int32) : Nat → Nat → Int64 → Int64
  | 0, _, h => h
  | n + 1, k, h => hashM f n (k + 1) (31 * (31 * (31 * h + (f (15 + 4 * k + 0)).toInt64) + (f (15 + 4 * k + 1)).toInt64) + (f (15 + 4 * k + 2)).toInt64)
set_option maxHeartbeats 4000000 in
set_option maxRecDepth 100000 in
theorem lp_X4_digest (l : Launch) (D : va_G) (cI cS : ClassId) (y : Nat) (nw : Nat) (ad : Nat) (pa : Nat) (eA : Nat) (sn : Int32) (f : Nat → Int32) (g : Nat → Int32) (pf : Nat → Int32) (z : Nat → Int32) (N : Nat) {p : Program} {ev : Env} {s : State} {m : MethodId} {args : Array Value} {below : List Frame} {meth : Method} {c : Code} {A : Nat → Prop} {Q : State → Prop} (S : CallFix p m c cX4_digest 3 s args wsX4_digest RX4)  :
    f 14 = nI N → N ≤ 6 → ∀ (n k : Nat) (hs : Int64), k + n = N → (∀ (H : Heap) (locs : List Loc) (ls : Array Slot), Gd D (tyL cI cS) A s.heap s [(y, .inr (4, [.ref nw, .ref ad, .ref pa, .int sn, .ref eA, .long (hashM f n k hs)])), (nw, .inl (cI, 39, .inl f)), (ad, .inl (cI, 39, .inl g)), (pa, .inl (cI, 195, .inl pf)), (eA, .inl (cI, 3, .inl z))] H locs → lv_has ls 3 [(0, .ref y)] → W p l ev ({ frames := 6, cells := 0, slots := 0, locals := 250 }) s m args below meth c H locs 0 0 Q (F0 m 209 ls [])) → ∀ (H : Heap) (locs : List Loc) (ls : Array Slot), Gd D (tyL cI cS) A s.heap s [(y, .inr (4, [.ref nw, .ref ad, .ref pa, .int sn, .ref eA, .long hs])), (nw, .inl (cI, 39, .inl f)), (ad, .inl (cI, 39, .inl g)), (pa, .inl (cI, 195, .inl pf)), (eA, .inl (cI, 3, .inl z))] H locs → lv_has ls 3 [(1, .int (nI k)), (0, .ref y)] → W p l ev ({ frames := 6, cells := 0, slots := 0, locals := 250 }) s m args below meth c H locs 0 0 Q (F0 m 161 ls []) := by
  have hx := S.1
  have hb := S.2.1
  have hown : s.vm.findClass RX4 = some m.cls := S.2.2.2.1
  have hts := S.2.2.2.2
  have hiX4 : ∀ w ∈ wsX40, w ∈ wsX4_digest := by decide +kernel
  have hf7 := hts (.fieldLink RX4 7 "StrikingWorkModel" "now" "[I") (by decide +kernel)
  intro hc hN n
  induction n with
  | zero =>
    intro k hs hin hk H locs ls G hl
    refine lv_iload_n hx hb dX4_digest_161 rfl (lv_at hl 0 rfl) ?_
    refine lv_aload_n hx hb dX4_digest_162 rfl (lv_at hl 1 rfl) ?_
    refine k_get (v := .ref nw) S G 0 rfl rfl hiX4 0 (by decide) hf7 rfl dX4_digest_163 ?_
    refine lv_bipush (v := 14) hx hb dX4_digest_166 (by decide) ?_
    refine k_iald (x := (f 14)) S G 1 0 rfl rfl (by unfold vp_in; decide) rfl dX4_digest_168 ?_
    refine lv_icmp_ge (tgt := 209) hx hb dX4_digest_169 (by decide) (fun c_1 => ?_) (fun c_1 => absurd (show f 14 ≤ nI k by rw [hc]; exact nI_le (show N ≤ k by omega) (by omega)) c_1)
    exact hk _ _ ls G (lv_sub hl [1] rfl)
  | succ n ih =>
    intro k hs hin hk H locs ls G hl
    refine lv_iload_n hx hb dX4_digest_161 rfl (lv_at hl 0 rfl) ?_
    refine lv_aload_n hx hb dX4_digest_162 rfl (lv_at hl 1 rfl) ?_
    refine k_get (v := .ref nw) S G 0 rfl rfl hiX4 0 (by decide) hf7 rfl dX4_digest_163 ?_
    refine lv_bipush (v := 14) hx hb dX4_digest_166 (by decide) ?_
    refine k_iald (x := (f 14)) S G 1 0 rfl rfl (by unfold vp_in; decide) rfl dX4_digest_168 ?_
    refine lv_icmp_ge (tgt := 209) hx hb dX4_digest_169 (by decide) (fun c_1 => absurd c_1 (show ¬ f 14 ≤ nI k by rw [hc]; exact nI_ge (show k < N by omega) (by omega))) (fun c_1 => ?_)
    refine lv_iconst (v := 0) hx hb dX4_digest_172 (by decide) ?_
    refine lv_istore_n (lv' := [(2, .int 0), (1, .int (nI k)), (0, .ref y)]) hx hb dX4_digest_173 rfl hl (by decide) rfl (fun ls hl => ?_)
    refine lv_iload_n hx hb dX4_digest_174 rfl (lv_at hl 0 rfl) ?_
    refine lv_iconst (v := 3) hx hb dX4_digest_175 (by decide) ?_
    refine lv_icmp_ge (tgt := 203) hx hb dX4_digest_176 (by decide) (fun c_2 => absurd c_2 (by decide)) (fun c_2 => ?_)
    refine lv_aload_n hx hb dX4_digest_179 rfl (lv_at hl 2 rfl) ?_
    refine lv_aload_n hx hb dX4_digest_180 rfl (lv_at hl 2 rfl) ?_
    refine k_get (v := .ref nw) S G 0 rfl rfl hiX4 0 (by decide) hf7 rfl dX4_digest_181 ?_
    refine lv_bipush (v := 15) hx hb dX4_digest_184 (by decide) ?_
    refine lv_iconst (v := 4) hx hb dX4_digest_186 (by decide) ?_
    refine lv_iload_n hx hb dX4_digest_187 rfl (lv_at hl 1 rfl) ?_
    refine lv_imul hx hb dX4_digest_188 ?_
    refine lv_lit (v := (nI (4 * k))) (pk_mul 4 k) ?_
    refine lv_iadd hx hb dX4_digest_189 ?_
    refine lv_lit (v := (nI (15 + 4 * k))) (nI_add 15 (4 * k)) ?_
    refine lv_iload_n hx hb dX4_digest_190 rfl (lv_at hl 0 rfl) ?_
    refine lv_iadd hx hb dX4_digest_191 ?_
    refine lv_lit (v := (nI (15 + 4 * k + 0))) (nI_add (15 + 4 * k) 0) ?_
    refine k_iald (x := (f (15 + 4 * k + 0))) S G 1 0 rfl rfl (vp_in_nI (by omega) (by decide)) (congrArg f (nI_clamp (by omega))) dX4_digest_192 ?_
    refine lv_i2l (v := (f (15 + 4 * k + 0)).toInt64) hx hb dX4_digest_193 rfl ?_
    refine k_callV (n := 1) (As := [.long ((f (15 + 4 * k + 0)).toInt64)]) (rest := []) (st1 := []) (ws1 := [(y, .inr (4, [.ref nw, .ref ad, .ref pa, .int sn, .ref eA, .long ((31 * hs) + ((f (15 + 4 * k + 0)).toInt64))])), (nw, .inl (cI, 39, .inl f)), (ad, .inl (cI, 39, .inl g)), (pa, .inl (cI, 195, .inl pf)), (eA, .inl (cI, 3, .inl z))]) S G (c_X4_mix l D cI cS y nw ad pa eA sn hs f g pf z ((f (15 + 4 * k + 0)).toInt64)) gX4_digest_X4_mix rfl (by decide +kernel) ⟨⟨rfl, rfl⟩, Nat.le_of_ble_eq_true rfl, Nat.le_of_ble_eq_true rfl⟩ [0, 1, 2, 3, 4] (by decide) rfl [y, nw, ad, pa, eA] rfl rfl 0 rfl rfl rfl hl.1 rfl (Nat.le_of_ble_eq_true rfl) ⟨Nat.zero_le _, Nat.zero_le _⟩ dX4_digest_194 rfl rfl (fun H locs G => ?_)
    refine lv_iinc (v := 1) (lv' := [(2, .int 1), (1, .int (nI k)), (0, .ref y)]) hx hb dX4_digest_197 hl (k := 0) rfl (by decide) (by decide) rfl (fun ls hl => ?_)
    refine lv_goto (tgt := 174) hx hb dX4_digest_200 (by decide) ?_
    refine lv_iload_n hx hb dX4_digest_174 rfl (lv_at hl 0 rfl) ?_
    refine lv_iconst (v := 3) hx hb dX4_digest_175 (by decide) ?_
    refine lv_icmp_ge (tgt := 203) hx hb dX4_digest_176 (by decide) (fun c_3 => absurd c_3 (by decide)) (fun c_3 => ?_)
    refine lv_aload_n hx hb dX4_digest_179 rfl (lv_at hl 2 rfl) ?_
    refine lv_aload_n hx hb dX4_digest_180 rfl (lv_at hl 2 rfl) ?_
    refine k_get (v := .ref nw) S G 0 rfl rfl hiX4 0 (by decide) hf7 rfl dX4_digest_181 ?_
    refine lv_bipush (v := 15) hx hb dX4_digest_184 (by decide) ?_
    refine lv_iconst (v := 4) hx hb dX4_digest_186 (by decide) ?_
    refine lv_iload_n hx hb dX4_digest_187 rfl (lv_at hl 1 rfl) ?_
    refine lv_imul hx hb dX4_digest_188 ?_
    refine lv_lit (v := (nI (4 * k))) (pk_mul 4 k) ?_
    refine lv_iadd hx hb dX4_digest_189 ?_
    refine lv_lit (v := (nI (15 + 4 * k))) (nI_add 15 (4 * k)) ?_
    refine lv_iload_n hx hb dX4_digest_190 rfl (lv_at hl 0 rfl) ?_
    refine lv_iadd hx hb dX4_digest_191 ?_
    refine lv_lit (v := (nI (15 + 4 * k + 1))) (nI_add (15 + 4 * k) 1) ?_
    refine k_iald (x := (f (15 + 4 * k + 1))) S G 1 0 rfl rfl (vp_in_nI (by omega) (by decide)) (congrArg f (nI_clamp (by omega))) dX4_digest_192 ?_
    refine lv_i2l (v := (f (15 + 4 * k + 1)).toInt64) hx hb dX4_digest_193 rfl ?_
    refine k_callV (n := 1) (As := [.long ((f (15 + 4 * k + 1)).toInt64)]) (rest := []) (st1 := []) (ws1 := [(y, .inr (4, [.ref nw, .ref ad, .ref pa, .int sn, .ref eA, .long ((31 * ((31 * hs) + ((f (15 + 4 * k + 0)).toInt64))) + ((f (15 + 4 * k + 1)).toInt64))])), (nw, .inl (cI, 39, .inl f)), (ad, .inl (cI, 39, .inl g)), (pa, .inl (cI, 195, .inl pf)), (eA, .inl (cI, 3, .inl z))]) S G (c_X4_mix l D cI cS y nw ad pa eA sn ((31 * hs) + ((f (15 + 4 * k + 0)).toInt64)) f g pf z ((f (15 + 4 * k + 1)).toInt64)) gX4_digest_X4_mix rfl (by decide +kernel) ⟨⟨rfl, rfl⟩, Nat.le_of_ble_eq_true rfl, Nat.le_of_ble_eq_true rfl⟩ [0, 1, 2, 3, 4] (by decide) rfl [y, nw, ad, pa, eA] rfl rfl 0 rfl rfl rfl hl.1 rfl (Nat.le_of_ble_eq_true rfl) ⟨Nat.zero_le _, Nat.zero_le _⟩ dX4_digest_194 rfl rfl (fun H locs G => ?_)
    refine lv_iinc (v := 2) (lv' := [(2, .int 2), (1, .int (nI k)), (0, .ref y)]) hx hb dX4_digest_197 hl (k := 0) rfl (by decide) (by decide) rfl (fun ls hl => ?_)
    refine lv_goto (tgt := 174) hx hb dX4_digest_200 (by decide) ?_
    refine lv_iload_n hx hb dX4_digest_174 rfl (lv_at hl 0 rfl) ?_
    refine lv_iconst (v := 3) hx hb dX4_digest_175 (by decide) ?_
    refine lv_icmp_ge (tgt := 203) hx hb dX4_digest_176 (by decide) (fun c_4 => absurd c_4 (by decide)) (fun c_4 => ?_)
    refine lv_aload_n hx hb dX4_digest_179 rfl (lv_at hl 2 rfl) ?_
    refine lv_aload_n hx hb dX4_digest_180 rfl (lv_at hl 2 rfl) ?_
    refine k_get (v := .ref nw) S G 0 rfl rfl hiX4 0 (by decide) hf7 rfl dX4_digest_181 ?_
    refine lv_bipush (v := 15) hx hb dX4_digest_184 (by decide) ?_
    refine lv_iconst (v := 4) hx hb dX4_digest_186 (by decide) ?_
    refine lv_iload_n hx hb dX4_digest_187 rfl (lv_at hl 1 rfl) ?_
    refine lv_imul hx hb dX4_digest_188 ?_
    refine lv_lit (v := (nI (4 * k))) (pk_mul 4 k) ?_
    refine lv_iadd hx hb dX4_digest_189 ?_
    refine lv_lit (v := (nI (15 + 4 * k))) (nI_add 15 (4 * k)) ?_
    refine lv_iload_n hx hb dX4_digest_190 rfl (lv_at hl 0 rfl) ?_
    refine lv_iadd hx hb dX4_digest_191 ?_
    refine lv_lit (v := (nI (15 + 4 * k + 2))) (nI_add (15 + 4 * k) 2) ?_
    refine k_iald (x := (f (15 + 4 * k + 2))) S G 1 0 rfl rfl (vp_in_nI (by omega) (by decide)) (congrArg f (nI_clamp (by omega))) dX4_digest_192 ?_
    refine lv_i2l (v := (f (15 + 4 * k + 2)).toInt64) hx hb dX4_digest_193 rfl ?_
    refine k_callV (n := 1) (As := [.long ((f (15 + 4 * k + 2)).toInt64)]) (rest := []) (st1 := []) (ws1 := [(y, .inr (4, [.ref nw, .ref ad, .ref pa, .int sn, .ref eA, .long ((31 * ((31 * ((31 * hs) + ((f (15 + 4 * k + 0)).toInt64))) + ((f (15 + 4 * k + 1)).toInt64))) + ((f (15 + 4 * k + 2)).toInt64))])), (nw, .inl (cI, 39, .inl f)), (ad, .inl (cI, 39, .inl g)), (pa, .inl (cI, 195, .inl pf)), (eA, .inl (cI, 3, .inl z))]) S G (c_X4_mix l D cI cS y nw ad pa eA sn ((31 * ((31 * hs) + ((f (15 + 4 * k + 0)).toInt64))) + ((f (15 + 4 * k + 1)).toInt64)) f g pf z ((f (15 + 4 * k + 2)).toInt64)) gX4_digest_X4_mix rfl (by decide +kernel) ⟨⟨rfl, rfl⟩, Nat.le_of_ble_eq_true rfl, Nat.le_of_ble_eq_true rfl⟩ [0, 1, 2, 3, 4] (by decide) rfl [y, nw, ad, pa, eA] rfl rfl 0 rfl rfl rfl hl.1 rfl (Nat.le_of_ble_eq_true rfl) ⟨Nat.zero_le _, Nat.zero_le _⟩ dX4_digest_194 rfl rfl (fun H locs G => ?_)
    refine lv_iinc (v := 3) (lv' := [(2, .int 3), (1, .int (nI k)), (0, .ref y)]) hx hb dX4_digest_197 hl (k := 0) rfl (by decide) (by decide) rfl (fun ls hl => ?_)
    refine lv_goto (tgt := 174) hx hb dX4_digest_200 (by decide) ?_
    refine lv_iload_n hx hb dX4_digest_174 rfl (lv_at hl 0 rfl) ?_
    refine lv_iconst (v := 3) hx hb dX4_digest_175 (by decide) ?_
    refine lv_icmp_ge (tgt := 203) hx hb dX4_digest_176 (by decide) (fun c_5 => ?_) (fun c_5 => absurd c_5 (by decide))
    refine lv_iinc (v := (nI (k + 1))) (lv' := [(1, .int (nI (k + 1))), (2, .int 3), (0, .ref y)]) hx hb dX4_digest_203 hl (k := 1) rfl (nI_1 k) (by decide) rfl (fun ls hl => ?_)
    refine lv_goto (tgt := 161) hx hb dX4_digest_206 (by decide) ?_
    exact ih (k + 1) ((31 * ((31 * ((31 * hs) + ((f (15 + 4 * k + 0)).toInt64))) + ((f (15 + 4 * k + 1)).toInt64))) + ((f (15 + 4 * k + 2)).toInt64)) (by omega) hk _ _ ls G (lv_sub hl [0, 2] rfl)
def s_X4_digest (sn : Int32) (f : Nat → Int32) (z : Nat → Int32) : Int64 × Int64 := (((31 * (hashM f (f 14).toNatClampNeg 0 ((31 * ((31 * ((31 * ((31 * ((31 * ((31 * ((31 * ((31 * ((31 * ((31 * ((31 * ((31 * ((31 * ((31 * ((31 * ((31 * ((31 * ((31 * ((31 * ((31 * ((31 * ((31 * 2657) + ((z 0).toInt64))) + ((z 1).toInt64))) + ((z 2).toInt64))) + ((f 0).toInt64))) + ((f 4).toInt64))) + ((f 5).toInt64))) + ((f 6).toInt64))) + ((f 7).toInt64))) + ((f 8).toInt64))) + ((s_X4_dueAfter_0 (f 0)).toInt64))) + ((s_X4_lagAt_0 f (f 0)).toInt64))) + ((f 9).toInt64))) + ((f 10).toInt64))) + ((f 11).toInt64))) + ((f 12).toInt64))) + ((f 13).toInt64))) + ((s_X4_dueAfter_1 (f 0)).toInt64))) + ((s_X4_lagAt_1 f (f 0)).toInt64))) + ((f 1).toInt64))) + ((f 2).toInt64))) + ((f 3).toInt64))) + ((f 14).toInt64)))) + sn.toInt64), ((31 * (hashM f (f 14).toNatClampNeg 0 ((31 * ((31 * ((31 * ((31 * ((31 * ((31 * ((31 * ((31 * ((31 * ((31 * ((31 * ((31 * ((31 * ((31 * ((31 * ((31 * ((31 * ((31 * ((31 * ((31 * ((31 * ((31 * 2657) + ((z 0).toInt64))) + ((z 1).toInt64))) + ((z 2).toInt64))) + ((f 0).toInt64))) + ((f 4).toInt64))) + ((f 5).toInt64))) + ((f 6).toInt64))) + ((f 7).toInt64))) + ((f 8).toInt64))) + ((s_X4_dueAfter_0 (f 0)).toInt64))) + ((s_X4_lagAt_0 f (f 0)).toInt64))) + ((f 9).toInt64))) + ((f 10).toInt64))) + ((f 11).toInt64))) + ((f 12).toInt64))) + ((f 13).toInt64))) + ((s_X4_dueAfter_1 (f 0)).toInt64))) + ((s_X4_lagAt_1 f (f 0)).toInt64))) + ((f 1).toInt64))) + ((f 2).toInt64))) + ((f 3).toInt64))) + ((f 14).toInt64)))) + sn.toInt64))
set_option maxHeartbeats 4000000 in
set_option maxRecDepth 100000 in
theorem c_X4_digest (l : Launch) (D : va_G) (cI cS : ClassId) (y : Nat) (nw : Nat) (ad : Nat) (pa : Nat) (eA : Nat) (sn : Int32) (hs : Int64) (f : Nat → Int32) (g : Nat → Int32) (pf : Nat → Int32) (z : Nat → Int32) (hcn : cnOk (f 14)) : Ct l yX4_digest wsX4_digest ({ frames := 6, cells := 0, slots := 0, locals := 250 }) D (tyL cI cS) [.ref y] [(y, .inr (4, [.ref nw, .ref ad, .ref pa, .int sn, .ref eA, .long hs])), (nw, .inl (cI, 39, .inl f)), (ad, .inl (cI, 39, .inl g)), (pa, .inl (cI, 195, .inl pf)), (eA, .inl (cI, 3, .inl z))] (some (.long ((s_X4_digest sn f z).1))) [(y, .inr (4, [.ref nw, .ref ad, .ref pa, .int sn, .ref eA, .long ((s_X4_digest sn f z).2)])), (nw, .inl (cI, 39, .inl f)), (ad, .inl (cI, 39, .inl g)), (pa, .inl (cI, 195, .inl pf)), (eA, .inl (cI, 3, .inl z))] := by
  refine Ct.of (cc := cX4_digest) (maxL := 3) (ret := (some .long)) (by decide) rfl (Nat.le_of_ble_eq_true rfl) ?_
  intro p ev s m args below meth c A ls S hr hlk G hl
  have hx := S.1
  have hb := S.2.1
  have hown : s.vm.findClass RX4 = some m.cls := S.2.2.2.1
  have hts := S.2.2.2.2
  have hl : lv_has ls 3 [(0, .ref y)] := hl
  have hiX4 : ∀ w ∈ wsX40, w ∈ wsX4_digest := by decide +kernel
  have hf7 := hts (.fieldLink RX4 7 "StrikingWorkModel" "now" "[I") (by decide +kernel)
  have hf19 := hts (.fieldLink RX4 19 "StrikingWorkModel" "errors" "[I") (by decide +kernel)
  have hf26 := hts (.fieldLink RX4 26 "StrikingWorkModel" "states" "I") (by decide +kernel)
  have hf88 := hts (.fieldLink RX4 88 "StrikingWorkModel" "hash" "J") (by decide +kernel)
  have hk92 := hts (.constantLong RX4 92 2657) (by decide +kernel)
  refine lv_aload_n hx hb dX4_digest_0 rfl (lv_at hl 0 rfl) ?_
  refine lv_ldc2 (v := 2657) hx hb hown hk92 dX4_digest_1 ?_
  refine k_put (ws1 := [(y, .inr (4, [.ref nw, .ref ad, .ref pa, .int sn, .ref eA, .long 2657])), (nw, .inl (cI, 39, .inl f)), (ad, .inl (cI, 39, .inl g)), (pa, .inl (cI, 195, .inl pf)), (eA, .inl (cI, 3, .inl z))]) S G 0 rfl rfl hiX4 tyX4 tyX4_ok nmX4 5 (by decide) hf88 rfl rfl rfl (Nat.le_of_ble_eq_true rfl) dX4_digest_4 rfl (fun H locs G => ?_)
  refine lv_iconst (v := 0) hx hb dX4_digest_7 (by decide) ?_
  refine lv_istore_n (lv' := [(1, .int 0), (0, .ref y)]) hx hb dX4_digest_8 rfl hl (by decide) rfl (fun ls hl => ?_)
  refine lv_iload_n hx hb dX4_digest_9 rfl (lv_at hl 0 rfl) ?_
  refine lv_iconst (v := 3) hx hb dX4_digest_10 (by decide) ?_
  refine lv_icmp_ge (tgt := 31) hx hb dX4_digest_11 (by decide) (fun c_1 => absurd c_1 (by decide)) (fun c_1 => ?_)
  refine lv_aload_n hx hb dX4_digest_14 rfl (lv_at hl 1 rfl) ?_
  refine lv_aload_n hx hb dX4_digest_15 rfl (lv_at hl 1 rfl) ?_
  refine k_get (v := .ref eA) S G 0 rfl rfl hiX4 4 (by decide) hf19 rfl dX4_digest_16 ?_
  refine lv_iload_n hx hb dX4_digest_19 rfl (lv_at hl 0 rfl) ?_
  refine k_iald (x := (z 0)) S G 4 0 rfl rfl (by unfold vp_in; decide) rfl dX4_digest_20 ?_
  refine lv_i2l (v := (z 0).toInt64) hx hb dX4_digest_21 rfl ?_
  refine k_callV (n := 1) (As := [.long ((z 0).toInt64)]) (rest := []) (st1 := []) (ws1 := [(y, .inr (4, [.ref nw, .ref ad, .ref pa, .int sn, .ref eA, .long ((31 * 2657) + ((z 0).toInt64))])), (nw, .inl (cI, 39, .inl f)), (ad, .inl (cI, 39, .inl g)), (pa, .inl (cI, 195, .inl pf)), (eA, .inl (cI, 3, .inl z))]) S G (c_X4_mix l D cI cS y nw ad pa eA sn 2657 f g pf z ((z 0).toInt64)) gX4_digest_X4_mix rfl (by decide +kernel) ⟨⟨rfl, rfl⟩, Nat.le_of_ble_eq_true rfl, Nat.le_of_ble_eq_true rfl⟩ [0, 1, 2, 3, 4] (by decide) rfl [y, nw, ad, pa, eA] rfl rfl 0 rfl rfl rfl hl.1 rfl (Nat.le_of_ble_eq_true rfl) ⟨Nat.zero_le _, Nat.zero_le _⟩ dX4_digest_22 rfl rfl (fun H locs G => ?_)
  refine lv_iinc (v := 1) (lv' := [(1, .int 1), (0, .ref y)]) hx hb dX4_digest_25 hl (k := 0) rfl (by decide) (by decide) rfl (fun ls hl => ?_)
  refine lv_goto (tgt := 9) hx hb dX4_digest_28 (by decide) ?_
  refine lv_iload_n hx hb dX4_digest_9 rfl (lv_at hl 0 rfl) ?_
  refine lv_iconst (v := 3) hx hb dX4_digest_10 (by decide) ?_
  refine lv_icmp_ge (tgt := 31) hx hb dX4_digest_11 (by decide) (fun c_2 => absurd c_2 (by decide)) (fun c_2 => ?_)
  refine lv_aload_n hx hb dX4_digest_14 rfl (lv_at hl 1 rfl) ?_
  refine lv_aload_n hx hb dX4_digest_15 rfl (lv_at hl 1 rfl) ?_
  refine k_get (v := .ref eA) S G 0 rfl rfl hiX4 4 (by decide) hf19 rfl dX4_digest_16 ?_
  refine lv_iload_n hx hb dX4_digest_19 rfl (lv_at hl 0 rfl) ?_
  refine k_iald (x := (z 1)) S G 4 0 rfl rfl (by unfold vp_in; decide) rfl dX4_digest_20 ?_
  refine lv_i2l (v := (z 1).toInt64) hx hb dX4_digest_21 rfl ?_
  refine k_callV (n := 1) (As := [.long ((z 1).toInt64)]) (rest := []) (st1 := []) (ws1 := [(y, .inr (4, [.ref nw, .ref ad, .ref pa, .int sn, .ref eA, .long ((31 * ((31 * 2657) + ((z 0).toInt64))) + ((z 1).toInt64))])), (nw, .inl (cI, 39, .inl f)), (ad, .inl (cI, 39, .inl g)), (pa, .inl (cI, 195, .inl pf)), (eA, .inl (cI, 3, .inl z))]) S G (c_X4_mix l D cI cS y nw ad pa eA sn ((31 * 2657) + ((z 0).toInt64)) f g pf z ((z 1).toInt64)) gX4_digest_X4_mix rfl (by decide +kernel) ⟨⟨rfl, rfl⟩, Nat.le_of_ble_eq_true rfl, Nat.le_of_ble_eq_true rfl⟩ [0, 1, 2, 3, 4] (by decide) rfl [y, nw, ad, pa, eA] rfl rfl 0 rfl rfl rfl hl.1 rfl (Nat.le_of_ble_eq_true rfl) ⟨Nat.zero_le _, Nat.zero_le _⟩ dX4_digest_22 rfl rfl (fun H locs G => ?_)
  refine lv_iinc (v := 2) (lv' := [(1, .int 2), (0, .ref y)]) hx hb dX4_digest_25 hl (k := 0) rfl (by decide) (by decide) rfl (fun ls hl => ?_)
  refine lv_goto (tgt := 9) hx hb dX4_digest_28 (by decide) ?_
  refine lv_iload_n hx hb dX4_digest_9 rfl (lv_at hl 0 rfl) ?_
  refine lv_iconst (v := 3) hx hb dX4_digest_10 (by decide) ?_
  refine lv_icmp_ge (tgt := 31) hx hb dX4_digest_11 (by decide) (fun c_3 => absurd c_3 (by decide)) (fun c_3 => ?_)
  refine lv_aload_n hx hb dX4_digest_14 rfl (lv_at hl 1 rfl) ?_
  refine lv_aload_n hx hb dX4_digest_15 rfl (lv_at hl 1 rfl) ?_
  refine k_get (v := .ref eA) S G 0 rfl rfl hiX4 4 (by decide) hf19 rfl dX4_digest_16 ?_
  refine lv_iload_n hx hb dX4_digest_19 rfl (lv_at hl 0 rfl) ?_
  refine k_iald (x := (z 2)) S G 4 0 rfl rfl (by unfold vp_in; decide) rfl dX4_digest_20 ?_
  refine lv_i2l (v := (z 2).toInt64) hx hb dX4_digest_21 rfl ?_
  refine k_callV (n := 1) (As := [.long ((z 2).toInt64)]) (rest := []) (st1 := []) (ws1 := [(y, .inr (4, [.ref nw, .ref ad, .ref pa, .int sn, .ref eA, .long ((31 * ((31 * ((31 * 2657) + ((z 0).toInt64))) + ((z 1).toInt64))) + ((z 2).toInt64))])), (nw, .inl (cI, 39, .inl f)), (ad, .inl (cI, 39, .inl g)), (pa, .inl (cI, 195, .inl pf)), (eA, .inl (cI, 3, .inl z))]) S G (c_X4_mix l D cI cS y nw ad pa eA sn ((31 * ((31 * 2657) + ((z 0).toInt64))) + ((z 1).toInt64)) f g pf z ((z 2).toInt64)) gX4_digest_X4_mix rfl (by decide +kernel) ⟨⟨rfl, rfl⟩, Nat.le_of_ble_eq_true rfl, Nat.le_of_ble_eq_true rfl⟩ [0, 1, 2, 3, 4] (by decide) rfl [y, nw, ad, pa, eA] rfl rfl 0 rfl rfl rfl hl.1 rfl (Nat.le_of_ble_eq_true rfl) ⟨Nat.zero_le _, Nat.zero_le _⟩ dX4_digest_22 rfl rfl (fun H locs G => ?_)
  refine lv_iinc (v := 3) (lv' := [(1, .int 3), (0, .ref y)]) hx hb dX4_digest_25 hl (k := 0) rfl (by decide) (by decide) rfl (fun ls hl => ?_)
  refine lv_goto (tgt := 9) hx hb dX4_digest_28 (by decide) ?_
  refine lv_iload_n hx hb dX4_digest_9 rfl (lv_at hl 0 rfl) ?_
  refine lv_iconst (v := 3) hx hb dX4_digest_10 (by decide) ?_
  refine lv_icmp_ge (tgt := 31) hx hb dX4_digest_11 (by decide) (fun c_4 => ?_) (fun c_4 => absurd c_4 (by decide))
  refine lv_aload_n hx hb dX4_digest_31 rfl (lv_at hl 1 rfl) ?_
  refine lv_aload_n hx hb dX4_digest_32 rfl (lv_at hl 1 rfl) ?_
  refine k_get (v := .ref nw) S G 0 rfl rfl hiX4 0 (by decide) hf7 rfl dX4_digest_33 ?_
  refine lv_iconst (v := 0) hx hb dX4_digest_36 (by decide) ?_
  refine k_iald (x := (f 0)) S G 1 0 rfl rfl (by unfold vp_in; decide) rfl dX4_digest_37 ?_
  refine lv_i2l (v := (f 0).toInt64) hx hb dX4_digest_38 rfl ?_
  refine k_callV (n := 1) (As := [.long ((f 0).toInt64)]) (rest := []) (st1 := []) (ws1 := [(y, .inr (4, [.ref nw, .ref ad, .ref pa, .int sn, .ref eA, .long ((31 * ((31 * ((31 * ((31 * 2657) + ((z 0).toInt64))) + ((z 1).toInt64))) + ((z 2).toInt64))) + ((f 0).toInt64))])), (nw, .inl (cI, 39, .inl f)), (ad, .inl (cI, 39, .inl g)), (pa, .inl (cI, 195, .inl pf)), (eA, .inl (cI, 3, .inl z))]) S G (c_X4_mix l D cI cS y nw ad pa eA sn ((31 * ((31 * ((31 * 2657) + ((z 0).toInt64))) + ((z 1).toInt64))) + ((z 2).toInt64)) f g pf z ((f 0).toInt64)) gX4_digest_X4_mix rfl (by decide +kernel) ⟨⟨rfl, rfl⟩, Nat.le_of_ble_eq_true rfl, Nat.le_of_ble_eq_true rfl⟩ [0, 1, 2, 3, 4] (by decide) rfl [y, nw, ad, pa, eA] rfl rfl 0 rfl rfl rfl hl.1 rfl (Nat.le_of_ble_eq_true rfl) ⟨Nat.zero_le _, Nat.zero_le _⟩ dX4_digest_39 rfl rfl (fun H locs G => ?_)
  refine lv_iconst (v := 0) hx hb dX4_digest_42 (by decide) ?_
  refine lv_istore_n (lv' := [(1, .int 0), (0, .ref y)]) hx hb dX4_digest_43 rfl hl (by decide) rfl (fun ls hl => ?_)
  refine lv_iload_n hx hb dX4_digest_44 rfl (lv_at hl 0 rfl) ?_
  refine lv_iconst (v := 2) hx hb dX4_digest_45 (by decide) ?_
  refine lv_icmp_ge (tgt := 114) hx hb dX4_digest_46 (by decide) (fun c_5 => absurd c_5 (by decide)) (fun c_5 => ?_)
  refine lv_iconst (v := 0) hx hb dX4_digest_49 (by decide) ?_
  refine lv_istore_n (lv' := [(2, .int 0), (1, .int 0), (0, .ref y)]) hx hb dX4_digest_50 rfl hl (by decide) rfl (fun ls hl => ?_)
  refine lv_iload_n hx hb dX4_digest_51 rfl (lv_at hl 0 rfl) ?_
  refine lv_iconst (v := 5) hx hb dX4_digest_52 (by decide) ?_
  refine lv_icmp_ge (tgt := 77) hx hb dX4_digest_53 (by decide) (fun c_6 => absurd c_6 (by decide)) (fun c_6 => ?_)
  refine lv_aload_n hx hb dX4_digest_56 rfl (lv_at hl 2 rfl) ?_
  refine lv_aload_n hx hb dX4_digest_57 rfl (lv_at hl 2 rfl) ?_
  refine k_get (v := .ref nw) S G 0 rfl rfl hiX4 0 (by decide) hf7 rfl dX4_digest_58 ?_
  refine lv_iload_n hx hb dX4_digest_61 rfl (lv_at hl 1 rfl) ?_
  refine lv_iload_n hx hb dX4_digest_62 rfl (lv_at hl 0 rfl) ?_
  refine k_callS (n := 2) (As := [.int 0, .int 0]) (rest := [.ref nw, .ref y]) (st1 := [.int 4, .ref nw, .ref y]) (ws1 := [(y, .inr (4, [.ref nw, .ref ad, .ref pa, .int sn, .ref eA, .long ((31 * ((31 * ((31 * ((31 * 2657) + ((z 0).toInt64))) + ((z 1).toInt64))) + ((z 2).toInt64))) + ((f 0).toInt64))])), (nw, .inl (cI, 39, .inl f)), (ad, .inl (cI, 39, .inl g)), (pa, .inl (cI, 195, .inl pf)), (eA, .inl (cI, 3, .inl z))]) S G (c_X4_at l D cI cS 0 0) gX4_digest_X4_at rfl (by decide +kernel) ⟨⟨rfl, rfl⟩, Nat.le_of_ble_eq_true rfl, Nat.le_of_ble_eq_true rfl⟩ [] (by decide) rfl [] rfl rfl rfl hl.1 rfl (Nat.le_of_ble_eq_true rfl) ⟨Nat.zero_le _, Nat.zero_le _⟩ dX4_digest_63 (congrArg (fun z => Value.int z :: [.ref nw, .ref y]) (by decide : (s_X4_at 0 0) = 4)) rfl (fun H locs G => ?_)
  refine k_iald (x := (f 4)) S G 1 0 rfl rfl (by unfold vp_in; decide) rfl dX4_digest_66 ?_
  refine lv_i2l (v := (f 4).toInt64) hx hb dX4_digest_67 rfl ?_
  refine k_callV (n := 1) (As := [.long ((f 4).toInt64)]) (rest := []) (st1 := []) (ws1 := [(y, .inr (4, [.ref nw, .ref ad, .ref pa, .int sn, .ref eA, .long ((31 * ((31 * ((31 * ((31 * ((31 * 2657) + ((z 0).toInt64))) + ((z 1).toInt64))) + ((z 2).toInt64))) + ((f 0).toInt64))) + ((f 4).toInt64))])), (nw, .inl (cI, 39, .inl f)), (ad, .inl (cI, 39, .inl g)), (pa, .inl (cI, 195, .inl pf)), (eA, .inl (cI, 3, .inl z))]) S G (c_X4_mix l D cI cS y nw ad pa eA sn ((31 * ((31 * ((31 * ((31 * 2657) + ((z 0).toInt64))) + ((z 1).toInt64))) + ((z 2).toInt64))) + ((f 0).toInt64)) f g pf z ((f 4).toInt64)) gX4_digest_X4_mix rfl (by decide +kernel) ⟨⟨rfl, rfl⟩, Nat.le_of_ble_eq_true rfl, Nat.le_of_ble_eq_true rfl⟩ [0, 1, 2, 3, 4] (by decide) rfl [y, nw, ad, pa, eA] rfl rfl 0 rfl rfl rfl hl.1 rfl (Nat.le_of_ble_eq_true rfl) ⟨Nat.zero_le _, Nat.zero_le _⟩ dX4_digest_68 rfl rfl (fun H locs G => ?_)
  refine lv_iinc (v := 1) (lv' := [(2, .int 1), (1, .int 0), (0, .ref y)]) hx hb dX4_digest_71 hl (k := 0) rfl (by decide) (by decide) rfl (fun ls hl => ?_)
  refine lv_goto (tgt := 51) hx hb dX4_digest_74 (by decide) ?_
  refine lv_iload_n hx hb dX4_digest_51 rfl (lv_at hl 0 rfl) ?_
  refine lv_iconst (v := 5) hx hb dX4_digest_52 (by decide) ?_
  refine lv_icmp_ge (tgt := 77) hx hb dX4_digest_53 (by decide) (fun c_7 => absurd c_7 (by decide)) (fun c_7 => ?_)
  refine lv_aload_n hx hb dX4_digest_56 rfl (lv_at hl 2 rfl) ?_
  refine lv_aload_n hx hb dX4_digest_57 rfl (lv_at hl 2 rfl) ?_
  refine k_get (v := .ref nw) S G 0 rfl rfl hiX4 0 (by decide) hf7 rfl dX4_digest_58 ?_
  refine lv_iload_n hx hb dX4_digest_61 rfl (lv_at hl 1 rfl) ?_
  refine lv_iload_n hx hb dX4_digest_62 rfl (lv_at hl 0 rfl) ?_
  refine k_callS (n := 2) (As := [.int 0, .int 1]) (rest := [.ref nw, .ref y]) (st1 := [.int 5, .ref nw, .ref y]) (ws1 := [(y, .inr (4, [.ref nw, .ref ad, .ref pa, .int sn, .ref eA, .long ((31 * ((31 * ((31 * ((31 * ((31 * 2657) + ((z 0).toInt64))) + ((z 1).toInt64))) + ((z 2).toInt64))) + ((f 0).toInt64))) + ((f 4).toInt64))])), (nw, .inl (cI, 39, .inl f)), (ad, .inl (cI, 39, .inl g)), (pa, .inl (cI, 195, .inl pf)), (eA, .inl (cI, 3, .inl z))]) S G (c_X4_at l D cI cS 0 1) gX4_digest_X4_at rfl (by decide +kernel) ⟨⟨rfl, rfl⟩, Nat.le_of_ble_eq_true rfl, Nat.le_of_ble_eq_true rfl⟩ [] (by decide) rfl [] rfl rfl rfl hl.1 rfl (Nat.le_of_ble_eq_true rfl) ⟨Nat.zero_le _, Nat.zero_le _⟩ dX4_digest_63 (congrArg (fun z => Value.int z :: [.ref nw, .ref y]) (by decide : (s_X4_at 0 1) = 5)) rfl (fun H locs G => ?_)
  refine k_iald (x := (f 5)) S G 1 0 rfl rfl (by unfold vp_in; decide) rfl dX4_digest_66 ?_
  refine lv_i2l (v := (f 5).toInt64) hx hb dX4_digest_67 rfl ?_
  refine k_callV (n := 1) (As := [.long ((f 5).toInt64)]) (rest := []) (st1 := []) (ws1 := [(y, .inr (4, [.ref nw, .ref ad, .ref pa, .int sn, .ref eA, .long ((31 * ((31 * ((31 * ((31 * ((31 * ((31 * 2657) + ((z 0).toInt64))) + ((z 1).toInt64))) + ((z 2).toInt64))) + ((f 0).toInt64))) + ((f 4).toInt64))) + ((f 5).toInt64))])), (nw, .inl (cI, 39, .inl f)), (ad, .inl (cI, 39, .inl g)), (pa, .inl (cI, 195, .inl pf)), (eA, .inl (cI, 3, .inl z))]) S G (c_X4_mix l D cI cS y nw ad pa eA sn ((31 * ((31 * ((31 * ((31 * ((31 * 2657) + ((z 0).toInt64))) + ((z 1).toInt64))) + ((z 2).toInt64))) + ((f 0).toInt64))) + ((f 4).toInt64)) f g pf z ((f 5).toInt64)) gX4_digest_X4_mix rfl (by decide +kernel) ⟨⟨rfl, rfl⟩, Nat.le_of_ble_eq_true rfl, Nat.le_of_ble_eq_true rfl⟩ [0, 1, 2, 3, 4] (by decide) rfl [y, nw, ad, pa, eA] rfl rfl 0 rfl rfl rfl hl.1 rfl (Nat.le_of_ble_eq_true rfl) ⟨Nat.zero_le _, Nat.zero_le _⟩ dX4_digest_68 rfl rfl (fun H locs G => ?_)
  refine lv_iinc (v := 2) (lv' := [(2, .int 2), (1, .int 0), (0, .ref y)]) hx hb dX4_digest_71 hl (k := 0) rfl (by decide) (by decide) rfl (fun ls hl => ?_)
  refine lv_goto (tgt := 51) hx hb dX4_digest_74 (by decide) ?_
  refine lv_iload_n hx hb dX4_digest_51 rfl (lv_at hl 0 rfl) ?_
  refine lv_iconst (v := 5) hx hb dX4_digest_52 (by decide) ?_
  refine lv_icmp_ge (tgt := 77) hx hb dX4_digest_53 (by decide) (fun c_8 => absurd c_8 (by decide)) (fun c_8 => ?_)
  refine lv_aload_n hx hb dX4_digest_56 rfl (lv_at hl 2 rfl) ?_
  refine lv_aload_n hx hb dX4_digest_57 rfl (lv_at hl 2 rfl) ?_
  refine k_get (v := .ref nw) S G 0 rfl rfl hiX4 0 (by decide) hf7 rfl dX4_digest_58 ?_
  refine lv_iload_n hx hb dX4_digest_61 rfl (lv_at hl 1 rfl) ?_
  refine lv_iload_n hx hb dX4_digest_62 rfl (lv_at hl 0 rfl) ?_
  refine k_callS (n := 2) (As := [.int 0, .int 2]) (rest := [.ref nw, .ref y]) (st1 := [.int 6, .ref nw, .ref y]) (ws1 := [(y, .inr (4, [.ref nw, .ref ad, .ref pa, .int sn, .ref eA, .long ((31 * ((31 * ((31 * ((31 * ((31 * ((31 * 2657) + ((z 0).toInt64))) + ((z 1).toInt64))) + ((z 2).toInt64))) + ((f 0).toInt64))) + ((f 4).toInt64))) + ((f 5).toInt64))])), (nw, .inl (cI, 39, .inl f)), (ad, .inl (cI, 39, .inl g)), (pa, .inl (cI, 195, .inl pf)), (eA, .inl (cI, 3, .inl z))]) S G (c_X4_at l D cI cS 0 2) gX4_digest_X4_at rfl (by decide +kernel) ⟨⟨rfl, rfl⟩, Nat.le_of_ble_eq_true rfl, Nat.le_of_ble_eq_true rfl⟩ [] (by decide) rfl [] rfl rfl rfl hl.1 rfl (Nat.le_of_ble_eq_true rfl) ⟨Nat.zero_le _, Nat.zero_le _⟩ dX4_digest_63 (congrArg (fun z => Value.int z :: [.ref nw, .ref y]) (by decide : (s_X4_at 0 2) = 6)) rfl (fun H locs G => ?_)
  refine k_iald (x := (f 6)) S G 1 0 rfl rfl (by unfold vp_in; decide) rfl dX4_digest_66 ?_
  refine lv_i2l (v := (f 6).toInt64) hx hb dX4_digest_67 rfl ?_
  refine k_callV (n := 1) (As := [.long ((f 6).toInt64)]) (rest := []) (st1 := []) (ws1 := [(y, .inr (4, [.ref nw, .ref ad, .ref pa, .int sn, .ref eA, .long ((31 * ((31 * ((31 * ((31 * ((31 * ((31 * ((31 * 2657) + ((z 0).toInt64))) + ((z 1).toInt64))) + ((z 2).toInt64))) + ((f 0).toInt64))) + ((f 4).toInt64))) + ((f 5).toInt64))) + ((f 6).toInt64))])), (nw, .inl (cI, 39, .inl f)), (ad, .inl (cI, 39, .inl g)), (pa, .inl (cI, 195, .inl pf)), (eA, .inl (cI, 3, .inl z))]) S G (c_X4_mix l D cI cS y nw ad pa eA sn ((31 * ((31 * ((31 * ((31 * ((31 * ((31 * 2657) + ((z 0).toInt64))) + ((z 1).toInt64))) + ((z 2).toInt64))) + ((f 0).toInt64))) + ((f 4).toInt64))) + ((f 5).toInt64)) f g pf z ((f 6).toInt64)) gX4_digest_X4_mix rfl (by decide +kernel) ⟨⟨rfl, rfl⟩, Nat.le_of_ble_eq_true rfl, Nat.le_of_ble_eq_true rfl⟩ [0, 1, 2, 3, 4] (by decide) rfl [y, nw, ad, pa, eA] rfl rfl 0 rfl rfl rfl hl.1 rfl (Nat.le_of_ble_eq_true rfl) ⟨Nat.zero_le _, Nat.zero_le _⟩ dX4_digest_68 rfl rfl (fun H locs G => ?_)
  refine lv_iinc (v := 3) (lv' := [(2, .int 3), (1, .int 0), (0, .ref y)]) hx hb dX4_digest_71 hl (k := 0) rfl (by decide) (by decide) rfl (fun ls hl => ?_)
  refine lv_goto (tgt := 51) hx hb dX4_digest_74 (by decide) ?_
  refine lv_iload_n hx hb dX4_digest_51 rfl (lv_at hl 0 rfl) ?_
  refine lv_iconst (v := 5) hx hb dX4_digest_52 (by decide) ?_
  refine lv_icmp_ge (tgt := 77) hx hb dX4_digest_53 (by decide) (fun c_9 => absurd c_9 (by decide)) (fun c_9 => ?_)
  refine lv_aload_n hx hb dX4_digest_56 rfl (lv_at hl 2 rfl) ?_
  refine lv_aload_n hx hb dX4_digest_57 rfl (lv_at hl 2 rfl) ?_
  refine k_get (v := .ref nw) S G 0 rfl rfl hiX4 0 (by decide) hf7 rfl dX4_digest_58 ?_
  refine lv_iload_n hx hb dX4_digest_61 rfl (lv_at hl 1 rfl) ?_
  refine lv_iload_n hx hb dX4_digest_62 rfl (lv_at hl 0 rfl) ?_
  refine k_callS (n := 2) (As := [.int 0, .int 3]) (rest := [.ref nw, .ref y]) (st1 := [.int 7, .ref nw, .ref y]) (ws1 := [(y, .inr (4, [.ref nw, .ref ad, .ref pa, .int sn, .ref eA, .long ((31 * ((31 * ((31 * ((31 * ((31 * ((31 * ((31 * 2657) + ((z 0).toInt64))) + ((z 1).toInt64))) + ((z 2).toInt64))) + ((f 0).toInt64))) + ((f 4).toInt64))) + ((f 5).toInt64))) + ((f 6).toInt64))])), (nw, .inl (cI, 39, .inl f)), (ad, .inl (cI, 39, .inl g)), (pa, .inl (cI, 195, .inl pf)), (eA, .inl (cI, 3, .inl z))]) S G (c_X4_at l D cI cS 0 3) gX4_digest_X4_at rfl (by decide +kernel) ⟨⟨rfl, rfl⟩, Nat.le_of_ble_eq_true rfl, Nat.le_of_ble_eq_true rfl⟩ [] (by decide) rfl [] rfl rfl rfl hl.1 rfl (Nat.le_of_ble_eq_true rfl) ⟨Nat.zero_le _, Nat.zero_le _⟩ dX4_digest_63 (congrArg (fun z => Value.int z :: [.ref nw, .ref y]) (by decide : (s_X4_at 0 3) = 7)) rfl (fun H locs G => ?_)
  refine k_iald (x := (f 7)) S G 1 0 rfl rfl (by unfold vp_in; decide) rfl dX4_digest_66 ?_
  refine lv_i2l (v := (f 7).toInt64) hx hb dX4_digest_67 rfl ?_
  refine k_callV (n := 1) (As := [.long ((f 7).toInt64)]) (rest := []) (st1 := []) (ws1 := [(y, .inr (4, [.ref nw, .ref ad, .ref pa, .int sn, .ref eA, .long ((31 * ((31 * ((31 * ((31 * ((31 * ((31 * ((31 * ((31 * 2657) + ((z 0).toInt64))) + ((z 1).toInt64))) + ((z 2).toInt64))) + ((f 0).toInt64))) + ((f 4).toInt64))) + ((f 5).toInt64))) + ((f 6).toInt64))) + ((f 7).toInt64))])), (nw, .inl (cI, 39, .inl f)), (ad, .inl (cI, 39, .inl g)), (pa, .inl (cI, 195, .inl pf)), (eA, .inl (cI, 3, .inl z))]) S G (c_X4_mix l D cI cS y nw ad pa eA sn ((31 * ((31 * ((31 * ((31 * ((31 * ((31 * ((31 * 2657) + ((z 0).toInt64))) + ((z 1).toInt64))) + ((z 2).toInt64))) + ((f 0).toInt64))) + ((f 4).toInt64))) + ((f 5).toInt64))) + ((f 6).toInt64)) f g pf z ((f 7).toInt64)) gX4_digest_X4_mix rfl (by decide +kernel) ⟨⟨rfl, rfl⟩, Nat.le_of_ble_eq_true rfl, Nat.le_of_ble_eq_true rfl⟩ [0, 1, 2, 3, 4] (by decide) rfl [y, nw, ad, pa, eA] rfl rfl 0 rfl rfl rfl hl.1 rfl (Nat.le_of_ble_eq_true rfl) ⟨Nat.zero_le _, Nat.zero_le _⟩ dX4_digest_68 rfl rfl (fun H locs G => ?_)
  refine lv_iinc (v := 4) (lv' := [(2, .int 4), (1, .int 0), (0, .ref y)]) hx hb dX4_digest_71 hl (k := 0) rfl (by decide) (by decide) rfl (fun ls hl => ?_)
  refine lv_goto (tgt := 51) hx hb dX4_digest_74 (by decide) ?_
  refine lv_iload_n hx hb dX4_digest_51 rfl (lv_at hl 0 rfl) ?_
  refine lv_iconst (v := 5) hx hb dX4_digest_52 (by decide) ?_
  refine lv_icmp_ge (tgt := 77) hx hb dX4_digest_53 (by decide) (fun c_10 => absurd c_10 (by decide)) (fun c_10 => ?_)
  refine lv_aload_n hx hb dX4_digest_56 rfl (lv_at hl 2 rfl) ?_
  refine lv_aload_n hx hb dX4_digest_57 rfl (lv_at hl 2 rfl) ?_
  refine k_get (v := .ref nw) S G 0 rfl rfl hiX4 0 (by decide) hf7 rfl dX4_digest_58 ?_
  refine lv_iload_n hx hb dX4_digest_61 rfl (lv_at hl 1 rfl) ?_
  refine lv_iload_n hx hb dX4_digest_62 rfl (lv_at hl 0 rfl) ?_
  refine k_callS (n := 2) (As := [.int 0, .int 4]) (rest := [.ref nw, .ref y]) (st1 := [.int 8, .ref nw, .ref y]) (ws1 := [(y, .inr (4, [.ref nw, .ref ad, .ref pa, .int sn, .ref eA, .long ((31 * ((31 * ((31 * ((31 * ((31 * ((31 * ((31 * ((31 * 2657) + ((z 0).toInt64))) + ((z 1).toInt64))) + ((z 2).toInt64))) + ((f 0).toInt64))) + ((f 4).toInt64))) + ((f 5).toInt64))) + ((f 6).toInt64))) + ((f 7).toInt64))])), (nw, .inl (cI, 39, .inl f)), (ad, .inl (cI, 39, .inl g)), (pa, .inl (cI, 195, .inl pf)), (eA, .inl (cI, 3, .inl z))]) S G (c_X4_at l D cI cS 0 4) gX4_digest_X4_at rfl (by decide +kernel) ⟨⟨rfl, rfl⟩, Nat.le_of_ble_eq_true rfl, Nat.le_of_ble_eq_true rfl⟩ [] (by decide) rfl [] rfl rfl rfl hl.1 rfl (Nat.le_of_ble_eq_true rfl) ⟨Nat.zero_le _, Nat.zero_le _⟩ dX4_digest_63 (congrArg (fun z => Value.int z :: [.ref nw, .ref y]) (by decide : (s_X4_at 0 4) = 8)) rfl (fun H locs G => ?_)
  refine k_iald (x := (f 8)) S G 1 0 rfl rfl (by unfold vp_in; decide) rfl dX4_digest_66 ?_
  refine lv_i2l (v := (f 8).toInt64) hx hb dX4_digest_67 rfl ?_
  refine k_callV (n := 1) (As := [.long ((f 8).toInt64)]) (rest := []) (st1 := []) (ws1 := [(y, .inr (4, [.ref nw, .ref ad, .ref pa, .int sn, .ref eA, .long ((31 * ((31 * ((31 * ((31 * ((31 * ((31 * ((31 * ((31 * ((31 * 2657) + ((z 0).toInt64))) + ((z 1).toInt64))) + ((z 2).toInt64))) + ((f 0).toInt64))) + ((f 4).toInt64))) + ((f 5).toInt64))) + ((f 6).toInt64))) + ((f 7).toInt64))) + ((f 8).toInt64))])), (nw, .inl (cI, 39, .inl f)), (ad, .inl (cI, 39, .inl g)), (pa, .inl (cI, 195, .inl pf)), (eA, .inl (cI, 3, .inl z))]) S G (c_X4_mix l D cI cS y nw ad pa eA sn ((31 * ((31 * ((31 * ((31 * ((31 * ((31 * ((31 * ((31 * 2657) + ((z 0).toInt64))) + ((z 1).toInt64))) + ((z 2).toInt64))) + ((f 0).toInt64))) + ((f 4).toInt64))) + ((f 5).toInt64))) + ((f 6).toInt64))) + ((f 7).toInt64)) f g pf z ((f 8).toInt64)) gX4_digest_X4_mix rfl (by decide +kernel) ⟨⟨rfl, rfl⟩, Nat.le_of_ble_eq_true rfl, Nat.le_of_ble_eq_true rfl⟩ [0, 1, 2, 3, 4] (by decide) rfl [y, nw, ad, pa, eA] rfl rfl 0 rfl rfl rfl hl.1 rfl (Nat.le_of_ble_eq_true rfl) ⟨Nat.zero_le _, Nat.zero_le _⟩ dX4_digest_68 rfl rfl (fun H locs G => ?_)
  refine lv_iinc (v := 5) (lv' := [(2, .int 5), (1, .int 0), (0, .ref y)]) hx hb dX4_digest_71 hl (k := 0) rfl (by decide) (by decide) rfl (fun ls hl => ?_)
  refine lv_goto (tgt := 51) hx hb dX4_digest_74 (by decide) ?_
  refine lv_iload_n hx hb dX4_digest_51 rfl (lv_at hl 0 rfl) ?_
  refine lv_iconst (v := 5) hx hb dX4_digest_52 (by decide) ?_
  refine lv_icmp_ge (tgt := 77) hx hb dX4_digest_53 (by decide) (fun c_11 => ?_) (fun c_11 => absurd c_11 (by decide))
  refine lv_aload_n hx hb dX4_digest_77 rfl (lv_at hl 2 rfl) ?_
  refine lv_iload_n hx hb dX4_digest_78 rfl (lv_at hl 1 rfl) ?_
  refine lv_aload_n hx hb dX4_digest_79 rfl (lv_at hl 2 rfl) ?_
  refine k_get (v := .ref nw) S G 0 rfl rfl hiX4 0 (by decide) hf7 rfl dX4_digest_80 ?_
  refine lv_iconst (v := 0) hx hb dX4_digest_83 (by decide) ?_
  refine k_iald (x := (f 0)) S G 1 0 rfl rfl (by unfold vp_in; decide) rfl dX4_digest_84 ?_
  refine k_callS (n := 2) (As := [.int 0, .int (f 0)]) (rest := [.ref y]) (st1 := [.int (s_X4_dueAfter_0 (f 0)), .ref y]) (ws1 := [(y, .inr (4, [.ref nw, .ref ad, .ref pa, .int sn, .ref eA, .long ((31 * ((31 * ((31 * ((31 * ((31 * ((31 * ((31 * ((31 * ((31 * 2657) + ((z 0).toInt64))) + ((z 1).toInt64))) + ((z 2).toInt64))) + ((f 0).toInt64))) + ((f 4).toInt64))) + ((f 5).toInt64))) + ((f 6).toInt64))) + ((f 7).toInt64))) + ((f 8).toInt64))])), (nw, .inl (cI, 39, .inl f)), (ad, .inl (cI, 39, .inl g)), (pa, .inl (cI, 195, .inl pf)), (eA, .inl (cI, 3, .inl z))]) S G (c_X4_dueAfter_0 l D cI cS (f 0)) gX4_digest_X4_dueAfter rfl (by decide +kernel) ⟨⟨rfl, rfl⟩, Nat.le_of_ble_eq_true rfl, Nat.le_of_ble_eq_true rfl⟩ [] (by decide) rfl [] rfl rfl rfl hl.1 rfl (Nat.le_of_ble_eq_true rfl) ⟨Nat.zero_le _, Nat.zero_le _⟩ dX4_digest_85 rfl rfl (fun H locs G => ?_)
  refine lv_i2l (v := (s_X4_dueAfter_0 (f 0)).toInt64) hx hb dX4_digest_88 rfl ?_
  refine k_callV (n := 1) (As := [.long ((s_X4_dueAfter_0 (f 0)).toInt64)]) (rest := []) (st1 := []) (ws1 := [(y, .inr (4, [.ref nw, .ref ad, .ref pa, .int sn, .ref eA, .long ((31 * ((31 * ((31 * ((31 * ((31 * ((31 * ((31 * ((31 * ((31 * ((31 * 2657) + ((z 0).toInt64))) + ((z 1).toInt64))) + ((z 2).toInt64))) + ((f 0).toInt64))) + ((f 4).toInt64))) + ((f 5).toInt64))) + ((f 6).toInt64))) + ((f 7).toInt64))) + ((f 8).toInt64))) + ((s_X4_dueAfter_0 (f 0)).toInt64))])), (nw, .inl (cI, 39, .inl f)), (ad, .inl (cI, 39, .inl g)), (pa, .inl (cI, 195, .inl pf)), (eA, .inl (cI, 3, .inl z))]) S G (c_X4_mix l D cI cS y nw ad pa eA sn ((31 * ((31 * ((31 * ((31 * ((31 * ((31 * ((31 * ((31 * ((31 * 2657) + ((z 0).toInt64))) + ((z 1).toInt64))) + ((z 2).toInt64))) + ((f 0).toInt64))) + ((f 4).toInt64))) + ((f 5).toInt64))) + ((f 6).toInt64))) + ((f 7).toInt64))) + ((f 8).toInt64)) f g pf z ((s_X4_dueAfter_0 (f 0)).toInt64)) gX4_digest_X4_mix rfl (by decide +kernel) ⟨⟨rfl, rfl⟩, Nat.le_of_ble_eq_true rfl, Nat.le_of_ble_eq_true rfl⟩ [0, 1, 2, 3, 4] (by decide) rfl [y, nw, ad, pa, eA] rfl rfl 0 rfl rfl rfl hl.1 rfl (Nat.le_of_ble_eq_true rfl) ⟨Nat.zero_le _, Nat.zero_le _⟩ dX4_digest_89 rfl rfl (fun H locs G => ?_)
  refine lv_aload_n hx hb dX4_digest_92 rfl (lv_at hl 2 rfl) ?_
  refine lv_aload_n hx hb dX4_digest_93 rfl (lv_at hl 2 rfl) ?_
  refine lv_iload_n hx hb dX4_digest_94 rfl (lv_at hl 1 rfl) ?_
  refine lv_aload_n hx hb dX4_digest_95 rfl (lv_at hl 2 rfl) ?_
  refine k_get (v := .ref nw) S G 0 rfl rfl hiX4 0 (by decide) hf7 rfl dX4_digest_96 ?_
  refine lv_iconst (v := 0) hx hb dX4_digest_99 (by decide) ?_
  refine k_iald (x := (f 0)) S G 1 0 rfl rfl (by unfold vp_in; decide) rfl dX4_digest_100 ?_
  refine k_callV (n := 2) (As := [.int 0, .int (f 0)]) (rest := [.ref y]) (st1 := [.int (s_X4_lagAt_0 f (f 0)), .ref y]) (ws1 := [(y, .inr (4, [.ref nw, .ref ad, .ref pa, .int sn, .ref eA, .long ((31 * ((31 * ((31 * ((31 * ((31 * ((31 * ((31 * ((31 * ((31 * ((31 * 2657) + ((z 0).toInt64))) + ((z 1).toInt64))) + ((z 2).toInt64))) + ((f 0).toInt64))) + ((f 4).toInt64))) + ((f 5).toInt64))) + ((f 6).toInt64))) + ((f 7).toInt64))) + ((f 8).toInt64))) + ((s_X4_dueAfter_0 (f 0)).toInt64))])), (nw, .inl (cI, 39, .inl f)), (ad, .inl (cI, 39, .inl g)), (pa, .inl (cI, 195, .inl pf)), (eA, .inl (cI, 3, .inl z))]) S G (c_X4_lagAt_0 l D cI cS y nw ad pa eA sn ((31 * ((31 * ((31 * ((31 * ((31 * ((31 * ((31 * ((31 * ((31 * ((31 * 2657) + ((z 0).toInt64))) + ((z 1).toInt64))) + ((z 2).toInt64))) + ((f 0).toInt64))) + ((f 4).toInt64))) + ((f 5).toInt64))) + ((f 6).toInt64))) + ((f 7).toInt64))) + ((f 8).toInt64))) + ((s_X4_dueAfter_0 (f 0)).toInt64)) f g pf z (f 0)) gX4_digest_X4_lagAt rfl (by decide +kernel) ⟨⟨rfl, rfl⟩, Nat.le_of_ble_eq_true rfl, Nat.le_of_ble_eq_true rfl⟩ [0, 1, 2, 3, 4] (by decide) rfl [y, nw, ad, pa, eA] rfl rfl 0 rfl rfl rfl hl.1 rfl (Nat.le_of_ble_eq_true rfl) ⟨Nat.zero_le _, Nat.zero_le _⟩ dX4_digest_101 rfl rfl (fun H locs G => ?_)
  refine lv_i2l (v := (s_X4_lagAt_0 f (f 0)).toInt64) hx hb dX4_digest_104 rfl ?_
  refine k_callV (n := 1) (As := [.long ((s_X4_lagAt_0 f (f 0)).toInt64)]) (rest := []) (st1 := []) (ws1 := [(y, .inr (4, [.ref nw, .ref ad, .ref pa, .int sn, .ref eA, .long ((31 * ((31 * ((31 * ((31 * ((31 * ((31 * ((31 * ((31 * ((31 * ((31 * ((31 * 2657) + ((z 0).toInt64))) + ((z 1).toInt64))) + ((z 2).toInt64))) + ((f 0).toInt64))) + ((f 4).toInt64))) + ((f 5).toInt64))) + ((f 6).toInt64))) + ((f 7).toInt64))) + ((f 8).toInt64))) + ((s_X4_dueAfter_0 (f 0)).toInt64))) + ((s_X4_lagAt_0 f (f 0)).toInt64))])), (nw, .inl (cI, 39, .inl f)), (ad, .inl (cI, 39, .inl g)), (pa, .inl (cI, 195, .inl pf)), (eA, .inl (cI, 3, .inl z))]) S G (c_X4_mix l D cI cS y nw ad pa eA sn ((31 * ((31 * ((31 * ((31 * ((31 * ((31 * ((31 * ((31 * ((31 * ((31 * 2657) + ((z 0).toInt64))) + ((z 1).toInt64))) + ((z 2).toInt64))) + ((f 0).toInt64))) + ((f 4).toInt64))) + ((f 5).toInt64))) + ((f 6).toInt64))) + ((f 7).toInt64))) + ((f 8).toInt64))) + ((s_X4_dueAfter_0 (f 0)).toInt64)) f g pf z ((s_X4_lagAt_0 f (f 0)).toInt64)) gX4_digest_X4_mix rfl (by decide +kernel) ⟨⟨rfl, rfl⟩, Nat.le_of_ble_eq_true rfl, Nat.le_of_ble_eq_true rfl⟩ [0, 1, 2, 3, 4] (by decide) rfl [y, nw, ad, pa, eA] rfl rfl 0 rfl rfl rfl hl.1 rfl (Nat.le_of_ble_eq_true rfl) ⟨Nat.zero_le _, Nat.zero_le _⟩ dX4_digest_105 rfl rfl (fun H locs G => ?_)
  refine lv_iinc (v := 1) (lv' := [(1, .int 1), (2, .int 5), (0, .ref y)]) hx hb dX4_digest_108 hl (k := 1) rfl (by decide) (by decide) rfl (fun ls hl => ?_)
  refine lv_goto (tgt := 44) hx hb dX4_digest_111 (by decide) ?_
  refine lv_iload_n hx hb dX4_digest_44 rfl (lv_at hl 0 rfl) ?_
  refine lv_iconst (v := 2) hx hb dX4_digest_45 (by decide) ?_
  refine lv_icmp_ge (tgt := 114) hx hb dX4_digest_46 (by decide) (fun c_12 => absurd c_12 (by decide)) (fun c_12 => ?_)
  refine lv_iconst (v := 0) hx hb dX4_digest_49 (by decide) ?_
  refine lv_istore_n (lv' := [(2, .int 0), (1, .int 1), (0, .ref y)]) hx hb dX4_digest_50 rfl hl (by decide) rfl (fun ls hl => ?_)
  refine lv_iload_n hx hb dX4_digest_51 rfl (lv_at hl 0 rfl) ?_
  refine lv_iconst (v := 5) hx hb dX4_digest_52 (by decide) ?_
  refine lv_icmp_ge (tgt := 77) hx hb dX4_digest_53 (by decide) (fun c_13 => absurd c_13 (by decide)) (fun c_13 => ?_)
  refine lv_aload_n hx hb dX4_digest_56 rfl (lv_at hl 2 rfl) ?_
  refine lv_aload_n hx hb dX4_digest_57 rfl (lv_at hl 2 rfl) ?_
  refine k_get (v := .ref nw) S G 0 rfl rfl hiX4 0 (by decide) hf7 rfl dX4_digest_58 ?_
  refine lv_iload_n hx hb dX4_digest_61 rfl (lv_at hl 1 rfl) ?_
  refine lv_iload_n hx hb dX4_digest_62 rfl (lv_at hl 0 rfl) ?_
  refine k_callS (n := 2) (As := [.int 1, .int 0]) (rest := [.ref nw, .ref y]) (st1 := [.int 9, .ref nw, .ref y]) (ws1 := [(y, .inr (4, [.ref nw, .ref ad, .ref pa, .int sn, .ref eA, .long ((31 * ((31 * ((31 * ((31 * ((31 * ((31 * ((31 * ((31 * ((31 * ((31 * ((31 * 2657) + ((z 0).toInt64))) + ((z 1).toInt64))) + ((z 2).toInt64))) + ((f 0).toInt64))) + ((f 4).toInt64))) + ((f 5).toInt64))) + ((f 6).toInt64))) + ((f 7).toInt64))) + ((f 8).toInt64))) + ((s_X4_dueAfter_0 (f 0)).toInt64))) + ((s_X4_lagAt_0 f (f 0)).toInt64))])), (nw, .inl (cI, 39, .inl f)), (ad, .inl (cI, 39, .inl g)), (pa, .inl (cI, 195, .inl pf)), (eA, .inl (cI, 3, .inl z))]) S G (c_X4_at l D cI cS 1 0) gX4_digest_X4_at rfl (by decide +kernel) ⟨⟨rfl, rfl⟩, Nat.le_of_ble_eq_true rfl, Nat.le_of_ble_eq_true rfl⟩ [] (by decide) rfl [] rfl rfl rfl hl.1 rfl (Nat.le_of_ble_eq_true rfl) ⟨Nat.zero_le _, Nat.zero_le _⟩ dX4_digest_63 (congrArg (fun z => Value.int z :: [.ref nw, .ref y]) (by decide : (s_X4_at 1 0) = 9)) rfl (fun H locs G => ?_)
  refine k_iald (x := (f 9)) S G 1 0 rfl rfl (by unfold vp_in; decide) rfl dX4_digest_66 ?_
  refine lv_i2l (v := (f 9).toInt64) hx hb dX4_digest_67 rfl ?_
  refine k_callV (n := 1) (As := [.long ((f 9).toInt64)]) (rest := []) (st1 := []) (ws1 := [(y, .inr (4, [.ref nw, .ref ad, .ref pa, .int sn, .ref eA, .long ((31 * ((31 * ((31 * ((31 * ((31 * ((31 * ((31 * ((31 * ((31 * ((31 * ((31 * ((31 * 2657) + ((z 0).toInt64))) + ((z 1).toInt64))) + ((z 2).toInt64))) + ((f 0).toInt64))) + ((f 4).toInt64))) + ((f 5).toInt64))) + ((f 6).toInt64))) + ((f 7).toInt64))) + ((f 8).toInt64))) + ((s_X4_dueAfter_0 (f 0)).toInt64))) + ((s_X4_lagAt_0 f (f 0)).toInt64))) + ((f 9).toInt64))])), (nw, .inl (cI, 39, .inl f)), (ad, .inl (cI, 39, .inl g)), (pa, .inl (cI, 195, .inl pf)), (eA, .inl (cI, 3, .inl z))]) S G (c_X4_mix l D cI cS y nw ad pa eA sn ((31 * ((31 * ((31 * ((31 * ((31 * ((31 * ((31 * ((31 * ((31 * ((31 * ((31 * 2657) + ((z 0).toInt64))) + ((z 1).toInt64))) + ((z 2).toInt64))) + ((f 0).toInt64))) + ((f 4).toInt64))) + ((f 5).toInt64))) + ((f 6).toInt64))) + ((f 7).toInt64))) + ((f 8).toInt64))) + ((s_X4_dueAfter_0 (f 0)).toInt64))) + ((s_X4_lagAt_0 f (f 0)).toInt64)) f g pf z ((f 9).toInt64)) gX4_digest_X4_mix rfl (by decide +kernel) ⟨⟨rfl, rfl⟩, Nat.le_of_ble_eq_true rfl, Nat.le_of_ble_eq_true rfl⟩ [0, 1, 2, 3, 4] (by decide) rfl [y, nw, ad, pa, eA] rfl rfl 0 rfl rfl rfl hl.1 rfl (Nat.le_of_ble_eq_true rfl) ⟨Nat.zero_le _, Nat.zero_le _⟩ dX4_digest_68 rfl rfl (fun H locs G => ?_)
  refine lv_iinc (v := 1) (lv' := [(2, .int 1), (1, .int 1), (0, .ref y)]) hx hb dX4_digest_71 hl (k := 0) rfl (by decide) (by decide) rfl (fun ls hl => ?_)
  refine lv_goto (tgt := 51) hx hb dX4_digest_74 (by decide) ?_
  refine lv_iload_n hx hb dX4_digest_51 rfl (lv_at hl 0 rfl) ?_
  refine lv_iconst (v := 5) hx hb dX4_digest_52 (by decide) ?_
  refine lv_icmp_ge (tgt := 77) hx hb dX4_digest_53 (by decide) (fun c_14 => absurd c_14 (by decide)) (fun c_14 => ?_)
  refine lv_aload_n hx hb dX4_digest_56 rfl (lv_at hl 2 rfl) ?_
  refine lv_aload_n hx hb dX4_digest_57 rfl (lv_at hl 2 rfl) ?_
  refine k_get (v := .ref nw) S G 0 rfl rfl hiX4 0 (by decide) hf7 rfl dX4_digest_58 ?_
  refine lv_iload_n hx hb dX4_digest_61 rfl (lv_at hl 1 rfl) ?_
  refine lv_iload_n hx hb dX4_digest_62 rfl (lv_at hl 0 rfl) ?_
  refine k_callS (n := 2) (As := [.int 1, .int 1]) (rest := [.ref nw, .ref y]) (st1 := [.int 10, .ref nw, .ref y]) (ws1 := [(y, .inr (4, [.ref nw, .ref ad, .ref pa, .int sn, .ref eA, .long ((31 * ((31 * ((31 * ((31 * ((31 * ((31 * ((31 * ((31 * ((31 * ((31 * ((31 * ((31 * 2657) + ((z 0).toInt64))) + ((z 1).toInt64))) + ((z 2).toInt64))) + ((f 0).toInt64))) + ((f 4).toInt64))) + ((f 5).toInt64))) + ((f 6).toInt64))) + ((f 7).toInt64))) + ((f 8).toInt64))) + ((s_X4_dueAfter_0 (f 0)).toInt64))) + ((s_X4_lagAt_0 f (f 0)).toInt64))) + ((f 9).toInt64))])), (nw, .inl (cI, 39, .inl f)), (ad, .inl (cI, 39, .inl g)), (pa, .inl (cI, 195, .inl pf)), (eA, .inl (cI, 3, .inl z))]) S G (c_X4_at l D cI cS 1 1) gX4_digest_X4_at rfl (by decide +kernel) ⟨⟨rfl, rfl⟩, Nat.le_of_ble_eq_true rfl, Nat.le_of_ble_eq_true rfl⟩ [] (by decide) rfl [] rfl rfl rfl hl.1 rfl (Nat.le_of_ble_eq_true rfl) ⟨Nat.zero_le _, Nat.zero_le _⟩ dX4_digest_63 (congrArg (fun z => Value.int z :: [.ref nw, .ref y]) (by decide : (s_X4_at 1 1) = 10)) rfl (fun H locs G => ?_)
  refine k_iald (x := (f 10)) S G 1 0 rfl rfl (by unfold vp_in; decide) rfl dX4_digest_66 ?_
  refine lv_i2l (v := (f 10).toInt64) hx hb dX4_digest_67 rfl ?_
  refine k_callV (n := 1) (As := [.long ((f 10).toInt64)]) (rest := []) (st1 := []) (ws1 := [(y, .inr (4, [.ref nw, .ref ad, .ref pa, .int sn, .ref eA, .long ((31 * ((31 * ((31 * ((31 * ((31 * ((31 * ((31 * ((31 * ((31 * ((31 * ((31 * ((31 * ((31 * 2657) + ((z 0).toInt64))) + ((z 1).toInt64))) + ((z 2).toInt64))) + ((f 0).toInt64))) + ((f 4).toInt64))) + ((f 5).toInt64))) + ((f 6).toInt64))) + ((f 7).toInt64))) + ((f 8).toInt64))) + ((s_X4_dueAfter_0 (f 0)).toInt64))) + ((s_X4_lagAt_0 f (f 0)).toInt64))) + ((f 9).toInt64))) + ((f 10).toInt64))])), (nw, .inl (cI, 39, .inl f)), (ad, .inl (cI, 39, .inl g)), (pa, .inl (cI, 195, .inl pf)), (eA, .inl (cI, 3, .inl z))]) S G (c_X4_mix l D cI cS y nw ad pa eA sn ((31 * ((31 * ((31 * ((31 * ((31 * ((31 * ((31 * ((31 * ((31 * ((31 * ((31 * ((31 * 2657) + ((z 0).toInt64))) + ((z 1).toInt64))) + ((z 2).toInt64))) + ((f 0).toInt64))) + ((f 4).toInt64))) + ((f 5).toInt64))) + ((f 6).toInt64))) + ((f 7).toInt64))) + ((f 8).toInt64))) + ((s_X4_dueAfter_0 (f 0)).toInt64))) + ((s_X4_lagAt_0 f (f 0)).toInt64))) + ((f 9).toInt64)) f g pf z ((f 10).toInt64)) gX4_digest_X4_mix rfl (by decide +kernel) ⟨⟨rfl, rfl⟩, Nat.le_of_ble_eq_true rfl, Nat.le_of_ble_eq_true rfl⟩ [0, 1, 2, 3, 4] (by decide) rfl [y, nw, ad, pa, eA] rfl rfl 0 rfl rfl rfl hl.1 rfl (Nat.le_of_ble_eq_true rfl) ⟨Nat.zero_le _, Nat.zero_le _⟩ dX4_digest_68 rfl rfl (fun H locs G => ?_)
  refine lv_iinc (v := 2) (lv' := [(2, .int 2), (1, .int 1), (0, .ref y)]) hx hb dX4_digest_71 hl (k := 0) rfl (by decide) (by decide) rfl (fun ls hl => ?_)
  refine lv_goto (tgt := 51) hx hb dX4_digest_74 (by decide) ?_
  refine lv_iload_n hx hb dX4_digest_51 rfl (lv_at hl 0 rfl) ?_
  refine lv_iconst (v := 5) hx hb dX4_digest_52 (by decide) ?_
  refine lv_icmp_ge (tgt := 77) hx hb dX4_digest_53 (by decide) (fun c_15 => absurd c_15 (by decide)) (fun c_15 => ?_)
  refine lv_aload_n hx hb dX4_digest_56 rfl (lv_at hl 2 rfl) ?_
  refine lv_aload_n hx hb dX4_digest_57 rfl (lv_at hl 2 rfl) ?_
  refine k_get (v := .ref nw) S G 0 rfl rfl hiX4 0 (by decide) hf7 rfl dX4_digest_58 ?_
  refine lv_iload_n hx hb dX4_digest_61 rfl (lv_at hl 1 rfl) ?_
  refine lv_iload_n hx hb dX4_digest_62 rfl (lv_at hl 0 rfl) ?_
  refine k_callS (n := 2) (As := [.int 1, .int 2]) (rest := [.ref nw, .ref y]) (st1 := [.int 11, .ref nw, .ref y]) (ws1 := [(y, .inr (4, [.ref nw, .ref ad, .ref pa, .int sn, .ref eA, .long ((31 * ((31 * ((31 * ((31 * ((31 * ((31 * ((31 * ((31 * ((31 * ((31 * ((31 * ((31 * ((31 * 2657) + ((z 0).toInt64))) + ((z 1).toInt64))) + ((z 2).toInt64))) + ((f 0).toInt64))) + ((f 4).toInt64))) + ((f 5).toInt64))) + ((f 6).toInt64))) + ((f 7).toInt64))) + ((f 8).toInt64))) + ((s_X4_dueAfter_0 (f 0)).toInt64))) + ((s_X4_lagAt_0 f (f 0)).toInt64))) + ((f 9).toInt64))) + ((f 10).toInt64))])), (nw, .inl (cI, 39, .inl f)), (ad, .inl (cI, 39, .inl g)), (pa, .inl (cI, 195, .inl pf)), (eA, .inl (cI, 3, .inl z))]) S G (c_X4_at l D cI cS 1 2) gX4_digest_X4_at rfl (by decide +kernel) ⟨⟨rfl, rfl⟩, Nat.le_of_ble_eq_true rfl, Nat.le_of_ble_eq_true rfl⟩ [] (by decide) rfl [] rfl rfl rfl hl.1 rfl (Nat.le_of_ble_eq_true rfl) ⟨Nat.zero_le _, Nat.zero_le _⟩ dX4_digest_63 (congrArg (fun z => Value.int z :: [.ref nw, .ref y]) (by decide : (s_X4_at 1 2) = 11)) rfl (fun H locs G => ?_)
  refine k_iald (x := (f 11)) S G 1 0 rfl rfl (by unfold vp_in; decide) rfl dX4_digest_66 ?_
  refine lv_i2l (v := (f 11).toInt64) hx hb dX4_digest_67 rfl ?_
  refine k_callV (n := 1) (As := [.long ((f 11).toInt64)]) (rest := []) (st1 := []) (ws1 := [(y, .inr (4, [.ref nw, .ref ad, .ref pa, .int sn, .ref eA, .long ((31 * ((31 * ((31 * ((31 * ((31 * ((31 * ((31 * ((31 * ((31 * ((31 * ((31 * ((31 * ((31 * ((31 * 2657) + ((z 0).toInt64))) + ((z 1).toInt64))) + ((z 2).toInt64))) + ((f 0).toInt64))) + ((f 4).toInt64))) + ((f 5).toInt64))) + ((f 6).toInt64))) + ((f 7).toInt64))) + ((f 8).toInt64))) + ((s_X4_dueAfter_0 (f 0)).toInt64))) + ((s_X4_lagAt_0 f (f 0)).toInt64))) + ((f 9).toInt64))) + ((f 10).toInt64))) + ((f 11).toInt64))])), (nw, .inl (cI, 39, .inl f)), (ad, .inl (cI, 39, .inl g)), (pa, .inl (cI, 195, .inl pf)), (eA, .inl (cI, 3, .inl z))]) S G (c_X4_mix l D cI cS y nw ad pa eA sn ((31 * ((31 * ((31 * ((31 * ((31 * ((31 * ((31 * ((31 * ((31 * ((31 * ((31 * ((31 * ((31 * 2657) + ((z 0).toInt64))) + ((z 1).toInt64))) + ((z 2).toInt64))) + ((f 0).toInt64))) + ((f 4).toInt64))) + ((f 5).toInt64))) + ((f 6).toInt64))) + ((f 7).toInt64))) + ((f 8).toInt64))) + ((s_X4_dueAfter_0 (f 0)).toInt64))) + ((s_X4_lagAt_0 f (f 0)).toInt64))) + ((f 9).toInt64))) + ((f 10).toInt64)) f g pf z ((f 11).toInt64)) gX4_digest_X4_mix rfl (by decide +kernel) ⟨⟨rfl, rfl⟩, Nat.le_of_ble_eq_true rfl, Nat.le_of_ble_eq_true rfl⟩ [0, 1, 2, 3, 4] (by decide) rfl [y, nw, ad, pa, eA] rfl rfl 0 rfl rfl rfl hl.1 rfl (Nat.le_of_ble_eq_true rfl) ⟨Nat.zero_le _, Nat.zero_le _⟩ dX4_digest_68 rfl rfl (fun H locs G => ?_)
  refine lv_iinc (v := 3) (lv' := [(2, .int 3), (1, .int 1), (0, .ref y)]) hx hb dX4_digest_71 hl (k := 0) rfl (by decide) (by decide) rfl (fun ls hl => ?_)
  refine lv_goto (tgt := 51) hx hb dX4_digest_74 (by decide) ?_
  refine lv_iload_n hx hb dX4_digest_51 rfl (lv_at hl 0 rfl) ?_
  refine lv_iconst (v := 5) hx hb dX4_digest_52 (by decide) ?_
  refine lv_icmp_ge (tgt := 77) hx hb dX4_digest_53 (by decide) (fun c_16 => absurd c_16 (by decide)) (fun c_16 => ?_)
  refine lv_aload_n hx hb dX4_digest_56 rfl (lv_at hl 2 rfl) ?_
  refine lv_aload_n hx hb dX4_digest_57 rfl (lv_at hl 2 rfl) ?_
  refine k_get (v := .ref nw) S G 0 rfl rfl hiX4 0 (by decide) hf7 rfl dX4_digest_58 ?_
  refine lv_iload_n hx hb dX4_digest_61 rfl (lv_at hl 1 rfl) ?_
  refine lv_iload_n hx hb dX4_digest_62 rfl (lv_at hl 0 rfl) ?_
  refine k_callS (n := 2) (As := [.int 1, .int 3]) (rest := [.ref nw, .ref y]) (st1 := [.int 12, .ref nw, .ref y]) (ws1 := [(y, .inr (4, [.ref nw, .ref ad, .ref pa, .int sn, .ref eA, .long ((31 * ((31 * ((31 * ((31 * ((31 * ((31 * ((31 * ((31 * ((31 * ((31 * ((31 * ((31 * ((31 * ((31 * 2657) + ((z 0).toInt64))) + ((z 1).toInt64))) + ((z 2).toInt64))) + ((f 0).toInt64))) + ((f 4).toInt64))) + ((f 5).toInt64))) + ((f 6).toInt64))) + ((f 7).toInt64))) + ((f 8).toInt64))) + ((s_X4_dueAfter_0 (f 0)).toInt64))) + ((s_X4_lagAt_0 f (f 0)).toInt64))) + ((f 9).toInt64))) + ((f 10).toInt64))) + ((f 11).toInt64))])), (nw, .inl (cI, 39, .inl f)), (ad, .inl (cI, 39, .inl g)), (pa, .inl (cI, 195, .inl pf)), (eA, .inl (cI, 3, .inl z))]) S G (c_X4_at l D cI cS 1 3) gX4_digest_X4_at rfl (by decide +kernel) ⟨⟨rfl, rfl⟩, Nat.le_of_ble_eq_true rfl, Nat.le_of_ble_eq_true rfl⟩ [] (by decide) rfl [] rfl rfl rfl hl.1 rfl (Nat.le_of_ble_eq_true rfl) ⟨Nat.zero_le _, Nat.zero_le _⟩ dX4_digest_63 (congrArg (fun z => Value.int z :: [.ref nw, .ref y]) (by decide : (s_X4_at 1 3) = 12)) rfl (fun H locs G => ?_)
  refine k_iald (x := (f 12)) S G 1 0 rfl rfl (by unfold vp_in; decide) rfl dX4_digest_66 ?_
  refine lv_i2l (v := (f 12).toInt64) hx hb dX4_digest_67 rfl ?_
  refine k_callV (n := 1) (As := [.long ((f 12).toInt64)]) (rest := []) (st1 := []) (ws1 := [(y, .inr (4, [.ref nw, .ref ad, .ref pa, .int sn, .ref eA, .long ((31 * ((31 * ((31 * ((31 * ((31 * ((31 * ((31 * ((31 * ((31 * ((31 * ((31 * ((31 * ((31 * ((31 * ((31 * 2657) + ((z 0).toInt64))) + ((z 1).toInt64))) + ((z 2).toInt64))) + ((f 0).toInt64))) + ((f 4).toInt64))) + ((f 5).toInt64))) + ((f 6).toInt64))) + ((f 7).toInt64))) + ((f 8).toInt64))) + ((s_X4_dueAfter_0 (f 0)).toInt64))) + ((s_X4_lagAt_0 f (f 0)).toInt64))) + ((f 9).toInt64))) + ((f 10).toInt64))) + ((f 11).toInt64))) + ((f 12).toInt64))])), (nw, .inl (cI, 39, .inl f)), (ad, .inl (cI, 39, .inl g)), (pa, .inl (cI, 195, .inl pf)), (eA, .inl (cI, 3, .inl z))]) S G (c_X4_mix l D cI cS y nw ad pa eA sn ((31 * ((31 * ((31 * ((31 * ((31 * ((31 * ((31 * ((31 * ((31 * ((31 * ((31 * ((31 * ((31 * ((31 * 2657) + ((z 0).toInt64))) + ((z 1).toInt64))) + ((z 2).toInt64))) + ((f 0).toInt64))) + ((f 4).toInt64))) + ((f 5).toInt64))) + ((f 6).toInt64))) + ((f 7).toInt64))) + ((f 8).toInt64))) + ((s_X4_dueAfter_0 (f 0)).toInt64))) + ((s_X4_lagAt_0 f (f 0)).toInt64))) + ((f 9).toInt64))) + ((f 10).toInt64))) + ((f 11).toInt64)) f g pf z ((f 12).toInt64)) gX4_digest_X4_mix rfl (by decide +kernel) ⟨⟨rfl, rfl⟩, Nat.le_of_ble_eq_true rfl, Nat.le_of_ble_eq_true rfl⟩ [0, 1, 2, 3, 4] (by decide) rfl [y, nw, ad, pa, eA] rfl rfl 0 rfl rfl rfl hl.1 rfl (Nat.le_of_ble_eq_true rfl) ⟨Nat.zero_le _, Nat.zero_le _⟩ dX4_digest_68 rfl rfl (fun H locs G => ?_)
  refine lv_iinc (v := 4) (lv' := [(2, .int 4), (1, .int 1), (0, .ref y)]) hx hb dX4_digest_71 hl (k := 0) rfl (by decide) (by decide) rfl (fun ls hl => ?_)
  refine lv_goto (tgt := 51) hx hb dX4_digest_74 (by decide) ?_
  refine lv_iload_n hx hb dX4_digest_51 rfl (lv_at hl 0 rfl) ?_
  refine lv_iconst (v := 5) hx hb dX4_digest_52 (by decide) ?_
  refine lv_icmp_ge (tgt := 77) hx hb dX4_digest_53 (by decide) (fun c_17 => absurd c_17 (by decide)) (fun c_17 => ?_)
  refine lv_aload_n hx hb dX4_digest_56 rfl (lv_at hl 2 rfl) ?_
  refine lv_aload_n hx hb dX4_digest_57 rfl (lv_at hl 2 rfl) ?_
  refine k_get (v := .ref nw) S G 0 rfl rfl hiX4 0 (by decide) hf7 rfl dX4_digest_58 ?_
  refine lv_iload_n hx hb dX4_digest_61 rfl (lv_at hl 1 rfl) ?_
  refine lv_iload_n hx hb dX4_digest_62 rfl (lv_at hl 0 rfl) ?_
  refine k_callS (n := 2) (As := [.int 1, .int 4]) (rest := [.ref nw, .ref y]) (st1 := [.int 13, .ref nw, .ref y]) (ws1 := [(y, .inr (4, [.ref nw, .ref ad, .ref pa, .int sn, .ref eA, .long ((31 * ((31 * ((31 * ((31 * ((31 * ((31 * ((31 * ((31 * ((31 * ((31 * ((31 * ((31 * ((31 * ((31 * ((31 * 2657) + ((z 0).toInt64))) + ((z 1).toInt64))) + ((z 2).toInt64))) + ((f 0).toInt64))) + ((f 4).toInt64))) + ((f 5).toInt64))) + ((f 6).toInt64))) + ((f 7).toInt64))) + ((f 8).toInt64))) + ((s_X4_dueAfter_0 (f 0)).toInt64))) + ((s_X4_lagAt_0 f (f 0)).toInt64))) + ((f 9).toInt64))) + ((f 10).toInt64))) + ((f 11).toInt64))) + ((f 12).toInt64))])), (nw, .inl (cI, 39, .inl f)), (ad, .inl (cI, 39, .inl g)), (pa, .inl (cI, 195, .inl pf)), (eA, .inl (cI, 3, .inl z))]) S G (c_X4_at l D cI cS 1 4) gX4_digest_X4_at rfl (by decide +kernel) ⟨⟨rfl, rfl⟩, Nat.le_of_ble_eq_true rfl, Nat.le_of_ble_eq_true rfl⟩ [] (by decide) rfl [] rfl rfl rfl hl.1 rfl (Nat.le_of_ble_eq_true rfl) ⟨Nat.zero_le _, Nat.zero_le _⟩ dX4_digest_63 (congrArg (fun z => Value.int z :: [.ref nw, .ref y]) (by decide : (s_X4_at 1 4) = 13)) rfl (fun H locs G => ?_)
  refine k_iald (x := (f 13)) S G 1 0 rfl rfl (by unfold vp_in; decide) rfl dX4_digest_66 ?_
  refine lv_i2l (v := (f 13).toInt64) hx hb dX4_digest_67 rfl ?_
  refine k_callV (n := 1) (As := [.long ((f 13).toInt64)]) (rest := []) (st1 := []) (ws1 := [(y, .inr (4, [.ref nw, .ref ad, .ref pa, .int sn, .ref eA, .long ((31 * ((31 * ((31 * ((31 * ((31 * ((31 * ((31 * ((31 * ((31 * ((31 * ((31 * ((31 * ((31 * ((31 * ((31 * ((31 * 2657) + ((z 0).toInt64))) + ((z 1).toInt64))) + ((z 2).toInt64))) + ((f 0).toInt64))) + ((f 4).toInt64))) + ((f 5).toInt64))) + ((f 6).toInt64))) + ((f 7).toInt64))) + ((f 8).toInt64))) + ((s_X4_dueAfter_0 (f 0)).toInt64))) + ((s_X4_lagAt_0 f (f 0)).toInt64))) + ((f 9).toInt64))) + ((f 10).toInt64))) + ((f 11).toInt64))) + ((f 12).toInt64))) + ((f 13).toInt64))])), (nw, .inl (cI, 39, .inl f)), (ad, .inl (cI, 39, .inl g)), (pa, .inl (cI, 195, .inl pf)), (eA, .inl (cI, 3, .inl z))]) S G (c_X4_mix l D cI cS y nw ad pa eA sn ((31 * ((31 * ((31 * ((31 * ((31 * ((31 * ((31 * ((31 * ((31 * ((31 * ((31 * ((31 * ((31 * ((31 * ((31 * 2657) + ((z 0).toInt64))) + ((z 1).toInt64))) + ((z 2).toInt64))) + ((f 0).toInt64))) + ((f 4).toInt64))) + ((f 5).toInt64))) + ((f 6).toInt64))) + ((f 7).toInt64))) + ((f 8).toInt64))) + ((s_X4_dueAfter_0 (f 0)).toInt64))) + ((s_X4_lagAt_0 f (f 0)).toInt64))) + ((f 9).toInt64))) + ((f 10).toInt64))) + ((f 11).toInt64))) + ((f 12).toInt64)) f g pf z ((f 13).toInt64)) gX4_digest_X4_mix rfl (by decide +kernel) ⟨⟨rfl, rfl⟩, Nat.le_of_ble_eq_true rfl, Nat.le_of_ble_eq_true rfl⟩ [0, 1, 2, 3, 4] (by decide) rfl [y, nw, ad, pa, eA] rfl rfl 0 rfl rfl rfl hl.1 rfl (Nat.le_of_ble_eq_true rfl) ⟨Nat.zero_le _, Nat.zero_le _⟩ dX4_digest_68 rfl rfl (fun H locs G => ?_)
  refine lv_iinc (v := 5) (lv' := [(2, .int 5), (1, .int 1), (0, .ref y)]) hx hb dX4_digest_71 hl (k := 0) rfl (by decide) (by decide) rfl (fun ls hl => ?_)
  refine lv_goto (tgt := 51) hx hb dX4_digest_74 (by decide) ?_
  refine lv_iload_n hx hb dX4_digest_51 rfl (lv_at hl 0 rfl) ?_
  refine lv_iconst (v := 5) hx hb dX4_digest_52 (by decide) ?_
  refine lv_icmp_ge (tgt := 77) hx hb dX4_digest_53 (by decide) (fun c_18 => ?_) (fun c_18 => absurd c_18 (by decide))
  refine lv_aload_n hx hb dX4_digest_77 rfl (lv_at hl 2 rfl) ?_
  refine lv_iload_n hx hb dX4_digest_78 rfl (lv_at hl 1 rfl) ?_
  refine lv_aload_n hx hb dX4_digest_79 rfl (lv_at hl 2 rfl) ?_
  refine k_get (v := .ref nw) S G 0 rfl rfl hiX4 0 (by decide) hf7 rfl dX4_digest_80 ?_
  refine lv_iconst (v := 0) hx hb dX4_digest_83 (by decide) ?_
  refine k_iald (x := (f 0)) S G 1 0 rfl rfl (by unfold vp_in; decide) rfl dX4_digest_84 ?_
  refine k_callS (n := 2) (As := [.int 1, .int (f 0)]) (rest := [.ref y]) (st1 := [.int (s_X4_dueAfter_1 (f 0)), .ref y]) (ws1 := [(y, .inr (4, [.ref nw, .ref ad, .ref pa, .int sn, .ref eA, .long ((31 * ((31 * ((31 * ((31 * ((31 * ((31 * ((31 * ((31 * ((31 * ((31 * ((31 * ((31 * ((31 * ((31 * ((31 * ((31 * 2657) + ((z 0).toInt64))) + ((z 1).toInt64))) + ((z 2).toInt64))) + ((f 0).toInt64))) + ((f 4).toInt64))) + ((f 5).toInt64))) + ((f 6).toInt64))) + ((f 7).toInt64))) + ((f 8).toInt64))) + ((s_X4_dueAfter_0 (f 0)).toInt64))) + ((s_X4_lagAt_0 f (f 0)).toInt64))) + ((f 9).toInt64))) + ((f 10).toInt64))) + ((f 11).toInt64))) + ((f 12).toInt64))) + ((f 13).toInt64))])), (nw, .inl (cI, 39, .inl f)), (ad, .inl (cI, 39, .inl g)), (pa, .inl (cI, 195, .inl pf)), (eA, .inl (cI, 3, .inl z))]) S G (c_X4_dueAfter_1 l D cI cS (f 0)) gX4_digest_X4_dueAfter rfl (by decide +kernel) ⟨⟨rfl, rfl⟩, Nat.le_of_ble_eq_true rfl, Nat.le_of_ble_eq_true rfl⟩ [] (by decide) rfl [] rfl rfl rfl hl.1 rfl (Nat.le_of_ble_eq_true rfl) ⟨Nat.zero_le _, Nat.zero_le _⟩ dX4_digest_85 rfl rfl (fun H locs G => ?_)
  refine lv_i2l (v := (s_X4_dueAfter_1 (f 0)).toInt64) hx hb dX4_digest_88 rfl ?_
  refine k_callV (n := 1) (As := [.long ((s_X4_dueAfter_1 (f 0)).toInt64)]) (rest := []) (st1 := []) (ws1 := [(y, .inr (4, [.ref nw, .ref ad, .ref pa, .int sn, .ref eA, .long ((31 * ((31 * ((31 * ((31 * ((31 * ((31 * ((31 * ((31 * ((31 * ((31 * ((31 * ((31 * ((31 * ((31 * ((31 * ((31 * ((31 * 2657) + ((z 0).toInt64))) + ((z 1).toInt64))) + ((z 2).toInt64))) + ((f 0).toInt64))) + ((f 4).toInt64))) + ((f 5).toInt64))) + ((f 6).toInt64))) + ((f 7).toInt64))) + ((f 8).toInt64))) + ((s_X4_dueAfter_0 (f 0)).toInt64))) + ((s_X4_lagAt_0 f (f 0)).toInt64))) + ((f 9).toInt64))) + ((f 10).toInt64))) + ((f 11).toInt64))) + ((f 12).toInt64))) + ((f 13).toInt64))) + ((s_X4_dueAfter_1 (f 0)).toInt64))])), (nw, .inl (cI, 39, .inl f)), (ad, .inl (cI, 39, .inl g)), (pa, .inl (cI, 195, .inl pf)), (eA, .inl (cI, 3, .inl z))]) S G (c_X4_mix l D cI cS y nw ad pa eA sn ((31 * ((31 * ((31 * ((31 * ((31 * ((31 * ((31 * ((31 * ((31 * ((31 * ((31 * ((31 * ((31 * ((31 * ((31 * ((31 * 2657) + ((z 0).toInt64))) + ((z 1).toInt64))) + ((z 2).toInt64))) + ((f 0).toInt64))) + ((f 4).toInt64))) + ((f 5).toInt64))) + ((f 6).toInt64))) + ((f 7).toInt64))) + ((f 8).toInt64))) + ((s_X4_dueAfter_0 (f 0)).toInt64))) + ((s_X4_lagAt_0 f (f 0)).toInt64))) + ((f 9).toInt64))) + ((f 10).toInt64))) + ((f 11).toInt64))) + ((f 12).toInt64))) + ((f 13).toInt64)) f g pf z ((s_X4_dueAfter_1 (f 0)).toInt64)) gX4_digest_X4_mix rfl (by decide +kernel) ⟨⟨rfl, rfl⟩, Nat.le_of_ble_eq_true rfl, Nat.le_of_ble_eq_true rfl⟩ [0, 1, 2, 3, 4] (by decide) rfl [y, nw, ad, pa, eA] rfl rfl 0 rfl rfl rfl hl.1 rfl (Nat.le_of_ble_eq_true rfl) ⟨Nat.zero_le _, Nat.zero_le _⟩ dX4_digest_89 rfl rfl (fun H locs G => ?_)
  refine lv_aload_n hx hb dX4_digest_92 rfl (lv_at hl 2 rfl) ?_
  refine lv_aload_n hx hb dX4_digest_93 rfl (lv_at hl 2 rfl) ?_
  refine lv_iload_n hx hb dX4_digest_94 rfl (lv_at hl 1 rfl) ?_
  refine lv_aload_n hx hb dX4_digest_95 rfl (lv_at hl 2 rfl) ?_
  refine k_get (v := .ref nw) S G 0 rfl rfl hiX4 0 (by decide) hf7 rfl dX4_digest_96 ?_
  refine lv_iconst (v := 0) hx hb dX4_digest_99 (by decide) ?_
  refine k_iald (x := (f 0)) S G 1 0 rfl rfl (by unfold vp_in; decide) rfl dX4_digest_100 ?_
  refine k_callV (n := 2) (As := [.int 1, .int (f 0)]) (rest := [.ref y]) (st1 := [.int (s_X4_lagAt_1 f (f 0)), .ref y]) (ws1 := [(y, .inr (4, [.ref nw, .ref ad, .ref pa, .int sn, .ref eA, .long ((31 * ((31 * ((31 * ((31 * ((31 * ((31 * ((31 * ((31 * ((31 * ((31 * ((31 * ((31 * ((31 * ((31 * ((31 * ((31 * ((31 * 2657) + ((z 0).toInt64))) + ((z 1).toInt64))) + ((z 2).toInt64))) + ((f 0).toInt64))) + ((f 4).toInt64))) + ((f 5).toInt64))) + ((f 6).toInt64))) + ((f 7).toInt64))) + ((f 8).toInt64))) + ((s_X4_dueAfter_0 (f 0)).toInt64))) + ((s_X4_lagAt_0 f (f 0)).toInt64))) + ((f 9).toInt64))) + ((f 10).toInt64))) + ((f 11).toInt64))) + ((f 12).toInt64))) + ((f 13).toInt64))) + ((s_X4_dueAfter_1 (f 0)).toInt64))])), (nw, .inl (cI, 39, .inl f)), (ad, .inl (cI, 39, .inl g)), (pa, .inl (cI, 195, .inl pf)), (eA, .inl (cI, 3, .inl z))]) S G (c_X4_lagAt_1 l D cI cS y nw ad pa eA sn ((31 * ((31 * ((31 * ((31 * ((31 * ((31 * ((31 * ((31 * ((31 * ((31 * ((31 * ((31 * ((31 * ((31 * ((31 * ((31 * ((31 * 2657) + ((z 0).toInt64))) + ((z 1).toInt64))) + ((z 2).toInt64))) + ((f 0).toInt64))) + ((f 4).toInt64))) + ((f 5).toInt64))) + ((f 6).toInt64))) + ((f 7).toInt64))) + ((f 8).toInt64))) + ((s_X4_dueAfter_0 (f 0)).toInt64))) + ((s_X4_lagAt_0 f (f 0)).toInt64))) + ((f 9).toInt64))) + ((f 10).toInt64))) + ((f 11).toInt64))) + ((f 12).toInt64))) + ((f 13).toInt64))) + ((s_X4_dueAfter_1 (f 0)).toInt64)) f g pf z (f 0)) gX4_digest_X4_lagAt rfl (by decide +kernel) ⟨⟨rfl, rfl⟩, Nat.le_of_ble_eq_true rfl, Nat.le_of_ble_eq_true rfl⟩ [0, 1, 2, 3, 4] (by decide) rfl [y, nw, ad, pa, eA] rfl rfl 0 rfl rfl rfl hl.1 rfl (Nat.le_of_ble_eq_true rfl) ⟨Nat.zero_le _, Nat.zero_le _⟩ dX4_digest_101 rfl rfl (fun H locs G => ?_)
  refine lv_i2l (v := (s_X4_lagAt_1 f (f 0)).toInt64) hx hb dX4_digest_104 rfl ?_
  refine k_callV (n := 1) (As := [.long ((s_X4_lagAt_1 f (f 0)).toInt64)]) (rest := []) (st1 := []) (ws1 := [(y, .inr (4, [.ref nw, .ref ad, .ref pa, .int sn, .ref eA, .long ((31 * ((31 * ((31 * ((31 * ((31 * ((31 * ((31 * ((31 * ((31 * ((31 * ((31 * ((31 * ((31 * ((31 * ((31 * ((31 * ((31 * ((31 * 2657) + ((z 0).toInt64))) + ((z 1).toInt64))) + ((z 2).toInt64))) + ((f 0).toInt64))) + ((f 4).toInt64))) + ((f 5).toInt64))) + ((f 6).toInt64))) + ((f 7).toInt64))) + ((f 8).toInt64))) + ((s_X4_dueAfter_0 (f 0)).toInt64))) + ((s_X4_lagAt_0 f (f 0)).toInt64))) + ((f 9).toInt64))) + ((f 10).toInt64))) + ((f 11).toInt64))) + ((f 12).toInt64))) + ((f 13).toInt64))) + ((s_X4_dueAfter_1 (f 0)).toInt64))) + ((s_X4_lagAt_1 f (f 0)).toInt64))])), (nw, .inl (cI, 39, .inl f)), (ad, .inl (cI, 39, .inl g)), (pa, .inl (cI, 195, .inl pf)), (eA, .inl (cI, 3, .inl z))]) S G (c_X4_mix l D cI cS y nw ad pa eA sn ((31 * ((31 * ((31 * ((31 * ((31 * ((31 * ((31 * ((31 * ((31 * ((31 * ((31 * ((31 * ((31 * ((31 * ((31 * ((31 * ((31 * 2657) + ((z 0).toInt64))) + ((z 1).toInt64))) + ((z 2).toInt64))) + ((f 0).toInt64))) + ((f 4).toInt64))) + ((f 5).toInt64))) + ((f 6).toInt64))) + ((f 7).toInt64))) + ((f 8).toInt64))) + ((s_X4_dueAfter_0 (f 0)).toInt64))) + ((s_X4_lagAt_0 f (f 0)).toInt64))) + ((f 9).toInt64))) + ((f 10).toInt64))) + ((f 11).toInt64))) + ((f 12).toInt64))) + ((f 13).toInt64))) + ((s_X4_dueAfter_1 (f 0)).toInt64)) f g pf z ((s_X4_lagAt_1 f (f 0)).toInt64)) gX4_digest_X4_mix rfl (by decide +kernel) ⟨⟨rfl, rfl⟩, Nat.le_of_ble_eq_true rfl, Nat.le_of_ble_eq_true rfl⟩ [0, 1, 2, 3, 4] (by decide) rfl [y, nw, ad, pa, eA] rfl rfl 0 rfl rfl rfl hl.1 rfl (Nat.le_of_ble_eq_true rfl) ⟨Nat.zero_le _, Nat.zero_le _⟩ dX4_digest_105 rfl rfl (fun H locs G => ?_)
  refine lv_iinc (v := 2) (lv' := [(1, .int 2), (2, .int 5), (0, .ref y)]) hx hb dX4_digest_108 hl (k := 1) rfl (by decide) (by decide) rfl (fun ls hl => ?_)
  refine lv_goto (tgt := 44) hx hb dX4_digest_111 (by decide) ?_
  refine lv_iload_n hx hb dX4_digest_44 rfl (lv_at hl 0 rfl) ?_
  refine lv_iconst (v := 2) hx hb dX4_digest_45 (by decide) ?_
  refine lv_icmp_ge (tgt := 114) hx hb dX4_digest_46 (by decide) (fun c_19 => ?_) (fun c_19 => absurd c_19 (by decide))
  refine lv_aload_n hx hb dX4_digest_114 rfl (lv_at hl 2 rfl) ?_
  refine lv_aload_n hx hb dX4_digest_115 rfl (lv_at hl 2 rfl) ?_
  refine k_get (v := .ref nw) S G 0 rfl rfl hiX4 0 (by decide) hf7 rfl dX4_digest_116 ?_
  refine lv_iconst (v := 1) hx hb dX4_digest_119 (by decide) ?_
  refine k_iald (x := (f 1)) S G 1 0 rfl rfl (by unfold vp_in; decide) rfl dX4_digest_120 ?_
  refine lv_i2l (v := (f 1).toInt64) hx hb dX4_digest_121 rfl ?_
  refine k_callV (n := 1) (As := [.long ((f 1).toInt64)]) (rest := []) (st1 := []) (ws1 := [(y, .inr (4, [.ref nw, .ref ad, .ref pa, .int sn, .ref eA, .long ((31 * ((31 * ((31 * ((31 * ((31 * ((31 * ((31 * ((31 * ((31 * ((31 * ((31 * ((31 * ((31 * ((31 * ((31 * ((31 * ((31 * ((31 * ((31 * 2657) + ((z 0).toInt64))) + ((z 1).toInt64))) + ((z 2).toInt64))) + ((f 0).toInt64))) + ((f 4).toInt64))) + ((f 5).toInt64))) + ((f 6).toInt64))) + ((f 7).toInt64))) + ((f 8).toInt64))) + ((s_X4_dueAfter_0 (f 0)).toInt64))) + ((s_X4_lagAt_0 f (f 0)).toInt64))) + ((f 9).toInt64))) + ((f 10).toInt64))) + ((f 11).toInt64))) + ((f 12).toInt64))) + ((f 13).toInt64))) + ((s_X4_dueAfter_1 (f 0)).toInt64))) + ((s_X4_lagAt_1 f (f 0)).toInt64))) + ((f 1).toInt64))])), (nw, .inl (cI, 39, .inl f)), (ad, .inl (cI, 39, .inl g)), (pa, .inl (cI, 195, .inl pf)), (eA, .inl (cI, 3, .inl z))]) S G (c_X4_mix l D cI cS y nw ad pa eA sn ((31 * ((31 * ((31 * ((31 * ((31 * ((31 * ((31 * ((31 * ((31 * ((31 * ((31 * ((31 * ((31 * ((31 * ((31 * ((31 * ((31 * ((31 * 2657) + ((z 0).toInt64))) + ((z 1).toInt64))) + ((z 2).toInt64))) + ((f 0).toInt64))) + ((f 4).toInt64))) + ((f 5).toInt64))) + ((f 6).toInt64))) + ((f 7).toInt64))) + ((f 8).toInt64))) + ((s_X4_dueAfter_0 (f 0)).toInt64))) + ((s_X4_lagAt_0 f (f 0)).toInt64))) + ((f 9).toInt64))) + ((f 10).toInt64))) + ((f 11).toInt64))) + ((f 12).toInt64))) + ((f 13).toInt64))) + ((s_X4_dueAfter_1 (f 0)).toInt64))) + ((s_X4_lagAt_1 f (f 0)).toInt64)) f g pf z ((f 1).toInt64)) gX4_digest_X4_mix rfl (by decide +kernel) ⟨⟨rfl, rfl⟩, Nat.le_of_ble_eq_true rfl, Nat.le_of_ble_eq_true rfl⟩ [0, 1, 2, 3, 4] (by decide) rfl [y, nw, ad, pa, eA] rfl rfl 0 rfl rfl rfl hl.1 rfl (Nat.le_of_ble_eq_true rfl) ⟨Nat.zero_le _, Nat.zero_le _⟩ dX4_digest_122 rfl rfl (fun H locs G => ?_)
  refine lv_aload_n hx hb dX4_digest_125 rfl (lv_at hl 2 rfl) ?_
  refine lv_aload_n hx hb dX4_digest_126 rfl (lv_at hl 2 rfl) ?_
  refine k_get (v := .ref nw) S G 0 rfl rfl hiX4 0 (by decide) hf7 rfl dX4_digest_127 ?_
  refine lv_iconst (v := 2) hx hb dX4_digest_130 (by decide) ?_
  refine k_iald (x := (f 2)) S G 1 0 rfl rfl (by unfold vp_in; decide) rfl dX4_digest_131 ?_
  refine lv_i2l (v := (f 2).toInt64) hx hb dX4_digest_132 rfl ?_
  refine k_callV (n := 1) (As := [.long ((f 2).toInt64)]) (rest := []) (st1 := []) (ws1 := [(y, .inr (4, [.ref nw, .ref ad, .ref pa, .int sn, .ref eA, .long ((31 * ((31 * ((31 * ((31 * ((31 * ((31 * ((31 * ((31 * ((31 * ((31 * ((31 * ((31 * ((31 * ((31 * ((31 * ((31 * ((31 * ((31 * ((31 * ((31 * 2657) + ((z 0).toInt64))) + ((z 1).toInt64))) + ((z 2).toInt64))) + ((f 0).toInt64))) + ((f 4).toInt64))) + ((f 5).toInt64))) + ((f 6).toInt64))) + ((f 7).toInt64))) + ((f 8).toInt64))) + ((s_X4_dueAfter_0 (f 0)).toInt64))) + ((s_X4_lagAt_0 f (f 0)).toInt64))) + ((f 9).toInt64))) + ((f 10).toInt64))) + ((f 11).toInt64))) + ((f 12).toInt64))) + ((f 13).toInt64))) + ((s_X4_dueAfter_1 (f 0)).toInt64))) + ((s_X4_lagAt_1 f (f 0)).toInt64))) + ((f 1).toInt64))) + ((f 2).toInt64))])), (nw, .inl (cI, 39, .inl f)), (ad, .inl (cI, 39, .inl g)), (pa, .inl (cI, 195, .inl pf)), (eA, .inl (cI, 3, .inl z))]) S G (c_X4_mix l D cI cS y nw ad pa eA sn ((31 * ((31 * ((31 * ((31 * ((31 * ((31 * ((31 * ((31 * ((31 * ((31 * ((31 * ((31 * ((31 * ((31 * ((31 * ((31 * ((31 * ((31 * ((31 * 2657) + ((z 0).toInt64))) + ((z 1).toInt64))) + ((z 2).toInt64))) + ((f 0).toInt64))) + ((f 4).toInt64))) + ((f 5).toInt64))) + ((f 6).toInt64))) + ((f 7).toInt64))) + ((f 8).toInt64))) + ((s_X4_dueAfter_0 (f 0)).toInt64))) + ((s_X4_lagAt_0 f (f 0)).toInt64))) + ((f 9).toInt64))) + ((f 10).toInt64))) + ((f 11).toInt64))) + ((f 12).toInt64))) + ((f 13).toInt64))) + ((s_X4_dueAfter_1 (f 0)).toInt64))) + ((s_X4_lagAt_1 f (f 0)).toInt64))) + ((f 1).toInt64)) f g pf z ((f 2).toInt64)) gX4_digest_X4_mix rfl (by decide +kernel) ⟨⟨rfl, rfl⟩, Nat.le_of_ble_eq_true rfl, Nat.le_of_ble_eq_true rfl⟩ [0, 1, 2, 3, 4] (by decide) rfl [y, nw, ad, pa, eA] rfl rfl 0 rfl rfl rfl hl.1 rfl (Nat.le_of_ble_eq_true rfl) ⟨Nat.zero_le _, Nat.zero_le _⟩ dX4_digest_133 rfl rfl (fun H locs G => ?_)
  refine lv_aload_n hx hb dX4_digest_136 rfl (lv_at hl 2 rfl) ?_
  refine lv_aload_n hx hb dX4_digest_137 rfl (lv_at hl 2 rfl) ?_
  refine k_get (v := .ref nw) S G 0 rfl rfl hiX4 0 (by decide) hf7 rfl dX4_digest_138 ?_
  refine lv_iconst (v := 3) hx hb dX4_digest_141 (by decide) ?_
  refine k_iald (x := (f 3)) S G 1 0 rfl rfl (by unfold vp_in; decide) rfl dX4_digest_142 ?_
  refine lv_i2l (v := (f 3).toInt64) hx hb dX4_digest_143 rfl ?_
  refine k_callV (n := 1) (As := [.long ((f 3).toInt64)]) (rest := []) (st1 := []) (ws1 := [(y, .inr (4, [.ref nw, .ref ad, .ref pa, .int sn, .ref eA, .long ((31 * ((31 * ((31 * ((31 * ((31 * ((31 * ((31 * ((31 * ((31 * ((31 * ((31 * ((31 * ((31 * ((31 * ((31 * ((31 * ((31 * ((31 * ((31 * ((31 * ((31 * 2657) + ((z 0).toInt64))) + ((z 1).toInt64))) + ((z 2).toInt64))) + ((f 0).toInt64))) + ((f 4).toInt64))) + ((f 5).toInt64))) + ((f 6).toInt64))) + ((f 7).toInt64))) + ((f 8).toInt64))) + ((s_X4_dueAfter_0 (f 0)).toInt64))) + ((s_X4_lagAt_0 f (f 0)).toInt64))) + ((f 9).toInt64))) + ((f 10).toInt64))) + ((f 11).toInt64))) + ((f 12).toInt64))) + ((f 13).toInt64))) + ((s_X4_dueAfter_1 (f 0)).toInt64))) + ((s_X4_lagAt_1 f (f 0)).toInt64))) + ((f 1).toInt64))) + ((f 2).toInt64))) + ((f 3).toInt64))])), (nw, .inl (cI, 39, .inl f)), (ad, .inl (cI, 39, .inl g)), (pa, .inl (cI, 195, .inl pf)), (eA, .inl (cI, 3, .inl z))]) S G (c_X4_mix l D cI cS y nw ad pa eA sn ((31 * ((31 * ((31 * ((31 * ((31 * ((31 * ((31 * ((31 * ((31 * ((31 * ((31 * ((31 * ((31 * ((31 * ((31 * ((31 * ((31 * ((31 * ((31 * ((31 * 2657) + ((z 0).toInt64))) + ((z 1).toInt64))) + ((z 2).toInt64))) + ((f 0).toInt64))) + ((f 4).toInt64))) + ((f 5).toInt64))) + ((f 6).toInt64))) + ((f 7).toInt64))) + ((f 8).toInt64))) + ((s_X4_dueAfter_0 (f 0)).toInt64))) + ((s_X4_lagAt_0 f (f 0)).toInt64))) + ((f 9).toInt64))) + ((f 10).toInt64))) + ((f 11).toInt64))) + ((f 12).toInt64))) + ((f 13).toInt64))) + ((s_X4_dueAfter_1 (f 0)).toInt64))) + ((s_X4_lagAt_1 f (f 0)).toInt64))) + ((f 1).toInt64))) + ((f 2).toInt64)) f g pf z ((f 3).toInt64)) gX4_digest_X4_mix rfl (by decide +kernel) ⟨⟨rfl, rfl⟩, Nat.le_of_ble_eq_true rfl, Nat.le_of_ble_eq_true rfl⟩ [0, 1, 2, 3, 4] (by decide) rfl [y, nw, ad, pa, eA] rfl rfl 0 rfl rfl rfl hl.1 rfl (Nat.le_of_ble_eq_true rfl) ⟨Nat.zero_le _, Nat.zero_le _⟩ dX4_digest_144 rfl rfl (fun H locs G => ?_)
  refine lv_aload_n hx hb dX4_digest_147 rfl (lv_at hl 2 rfl) ?_
  refine lv_aload_n hx hb dX4_digest_148 rfl (lv_at hl 2 rfl) ?_
  refine k_get (v := .ref nw) S G 0 rfl rfl hiX4 0 (by decide) hf7 rfl dX4_digest_149 ?_
  refine lv_bipush (v := 14) hx hb dX4_digest_152 (by decide) ?_
  refine k_iald (x := (f 14)) S G 1 0 rfl rfl (by unfold vp_in; decide) rfl dX4_digest_154 ?_
  refine lv_i2l (v := (f 14).toInt64) hx hb dX4_digest_155 rfl ?_
  refine k_callV (n := 1) (As := [.long ((f 14).toInt64)]) (rest := []) (st1 := []) (ws1 := [(y, .inr (4, [.ref nw, .ref ad, .ref pa, .int sn, .ref eA, .long ((31 * ((31 * ((31 * ((31 * ((31 * ((31 * ((31 * ((31 * ((31 * ((31 * ((31 * ((31 * ((31 * ((31 * ((31 * ((31 * ((31 * ((31 * ((31 * ((31 * ((31 * ((31 * 2657) + ((z 0).toInt64))) + ((z 1).toInt64))) + ((z 2).toInt64))) + ((f 0).toInt64))) + ((f 4).toInt64))) + ((f 5).toInt64))) + ((f 6).toInt64))) + ((f 7).toInt64))) + ((f 8).toInt64))) + ((s_X4_dueAfter_0 (f 0)).toInt64))) + ((s_X4_lagAt_0 f (f 0)).toInt64))) + ((f 9).toInt64))) + ((f 10).toInt64))) + ((f 11).toInt64))) + ((f 12).toInt64))) + ((f 13).toInt64))) + ((s_X4_dueAfter_1 (f 0)).toInt64))) + ((s_X4_lagAt_1 f (f 0)).toInt64))) + ((f 1).toInt64))) + ((f 2).toInt64))) + ((f 3).toInt64))) + ((f 14).toInt64))])), (nw, .inl (cI, 39, .inl f)), (ad, .inl (cI, 39, .inl g)), (pa, .inl (cI, 195, .inl pf)), (eA, .inl (cI, 3, .inl z))]) S G (c_X4_mix l D cI cS y nw ad pa eA sn ((31 * ((31 * ((31 * ((31 * ((31 * ((31 * ((31 * ((31 * ((31 * ((31 * ((31 * ((31 * ((31 * ((31 * ((31 * ((31 * ((31 * ((31 * ((31 * ((31 * ((31 * 2657) + ((z 0).toInt64))) + ((z 1).toInt64))) + ((z 2).toInt64))) + ((f 0).toInt64))) + ((f 4).toInt64))) + ((f 5).toInt64))) + ((f 6).toInt64))) + ((f 7).toInt64))) + ((f 8).toInt64))) + ((s_X4_dueAfter_0 (f 0)).toInt64))) + ((s_X4_lagAt_0 f (f 0)).toInt64))) + ((f 9).toInt64))) + ((f 10).toInt64))) + ((f 11).toInt64))) + ((f 12).toInt64))) + ((f 13).toInt64))) + ((s_X4_dueAfter_1 (f 0)).toInt64))) + ((s_X4_lagAt_1 f (f 0)).toInt64))) + ((f 1).toInt64))) + ((f 2).toInt64))) + ((f 3).toInt64)) f g pf z ((f 14).toInt64)) gX4_digest_X4_mix rfl (by decide +kernel) ⟨⟨rfl, rfl⟩, Nat.le_of_ble_eq_true rfl, Nat.le_of_ble_eq_true rfl⟩ [0, 1, 2, 3, 4] (by decide) rfl [y, nw, ad, pa, eA] rfl rfl 0 rfl rfl rfl hl.1 rfl (Nat.le_of_ble_eq_true rfl) ⟨Nat.zero_le _, Nat.zero_le _⟩ dX4_digest_156 rfl rfl (fun H locs G => ?_)
  refine lv_iconst (v := 0) hx hb dX4_digest_159 (by decide) ?_
  refine lv_istore_n (lv' := [(1, .int 0), (2, .int 5), (0, .ref y)]) hx hb dX4_digest_160 rfl hl (by decide) rfl (fun ls hl => ?_)
  obtain ⟨N, hN, hc⟩ := cnOk_nat hcn
  refine lp_X4_digest l D cI cS y nw ad pa eA sn f g pf z N S hc hN N 0 ((31 * ((31 * ((31 * ((31 * ((31 * ((31 * ((31 * ((31 * ((31 * ((31 * ((31 * ((31 * ((31 * ((31 * ((31 * ((31 * ((31 * ((31 * ((31 * ((31 * ((31 * ((31 * 2657) + ((z 0).toInt64))) + ((z 1).toInt64))) + ((z 2).toInt64))) + ((f 0).toInt64))) + ((f 4).toInt64))) + ((f 5).toInt64))) + ((f 6).toInt64))) + ((f 7).toInt64))) + ((f 8).toInt64))) + ((s_X4_dueAfter_0 (f 0)).toInt64))) + ((s_X4_lagAt_0 f (f 0)).toInt64))) + ((f 9).toInt64))) + ((f 10).toInt64))) + ((f 11).toInt64))) + ((f 12).toInt64))) + ((f 13).toInt64))) + ((s_X4_dueAfter_1 (f 0)).toInt64))) + ((s_X4_lagAt_1 f (f 0)).toInt64))) + ((f 1).toInt64))) + ((f 2).toInt64))) + ((f 3).toInt64))) + ((f 14).toInt64)) (by omega) (fun H locs ls G hl => ?_) _ _ ls G (lv_sub hl [0, 2] rfl)
  have eN : N = (f 14).toNatClampNeg := by rw [hc, nI_clamp (by omega)]
  rw [eN] at G
  refine lv_aload_n hx hb dX4_digest_209 rfl (lv_at hl 0 rfl) ?_
  refine lv_aload_n hx hb dX4_digest_210 rfl (lv_at hl 0 rfl) ?_
  refine k_get (v := .int sn) S G 0 rfl rfl hiX4 3 (by decide) hf26 rfl dX4_digest_211 ?_
  refine lv_i2l (v := sn.toInt64) hx hb dX4_digest_214 rfl ?_
  refine k_callV (n := 1) (As := [.long sn.toInt64]) (rest := []) (st1 := []) (ws1 := [(y, .inr (4, [.ref nw, .ref ad, .ref pa, .int sn, .ref eA, .long ((31 * (hashM f (f 14).toNatClampNeg 0 ((31 * ((31 * ((31 * ((31 * ((31 * ((31 * ((31 * ((31 * ((31 * ((31 * ((31 * ((31 * ((31 * ((31 * ((31 * ((31 * ((31 * ((31 * ((31 * ((31 * ((31 * ((31 * 2657) + ((z 0).toInt64))) + ((z 1).toInt64))) + ((z 2).toInt64))) + ((f 0).toInt64))) + ((f 4).toInt64))) + ((f 5).toInt64))) + ((f 6).toInt64))) + ((f 7).toInt64))) + ((f 8).toInt64))) + ((s_X4_dueAfter_0 (f 0)).toInt64))) + ((s_X4_lagAt_0 f (f 0)).toInt64))) + ((f 9).toInt64))) + ((f 10).toInt64))) + ((f 11).toInt64))) + ((f 12).toInt64))) + ((f 13).toInt64))) + ((s_X4_dueAfter_1 (f 0)).toInt64))) + ((s_X4_lagAt_1 f (f 0)).toInt64))) + ((f 1).toInt64))) + ((f 2).toInt64))) + ((f 3).toInt64))) + ((f 14).toInt64)))) + sn.toInt64)])), (nw, .inl (cI, 39, .inl f)), (ad, .inl (cI, 39, .inl g)), (pa, .inl (cI, 195, .inl pf)), (eA, .inl (cI, 3, .inl z))]) S G (c_X4_mix l D cI cS y nw ad pa eA sn (hashM f (f 14).toNatClampNeg 0 ((31 * ((31 * ((31 * ((31 * ((31 * ((31 * ((31 * ((31 * ((31 * ((31 * ((31 * ((31 * ((31 * ((31 * ((31 * ((31 * ((31 * ((31 * ((31 * ((31 * ((31 * ((31 * 2657) + ((z 0).toInt64))) + ((z 1).toInt64))) + ((z 2).toInt64))) + ((f 0).toInt64))) + ((f 4).toInt64))) + ((f 5).toInt64))) + ((f 6).toInt64))) + ((f 7).toInt64))) + ((f 8).toInt64))) + ((s_X4_dueAfter_0 (f 0)).toInt64))) + ((s_X4_lagAt_0 f (f 0)).toInt64))) + ((f 9).toInt64))) + ((f 10).toInt64))) + ((f 11).toInt64))) + ((f 12).toInt64))) + ((f 13).toInt64))) + ((s_X4_dueAfter_1 (f 0)).toInt64))) + ((s_X4_lagAt_1 f (f 0)).toInt64))) + ((f 1).toInt64))) + ((f 2).toInt64))) + ((f 3).toInt64))) + ((f 14).toInt64))) f g pf z sn.toInt64) gX4_digest_X4_mix rfl (by decide +kernel) ⟨⟨rfl, rfl⟩, Nat.le_of_ble_eq_true rfl, Nat.le_of_ble_eq_true rfl⟩ [0, 1, 2, 3, 4] (by decide) rfl [y, nw, ad, pa, eA] rfl rfl 0 rfl rfl rfl hl.1 rfl (Nat.le_of_ble_eq_true rfl) ⟨Nat.zero_le _, Nat.zero_le _⟩ dX4_digest_215 rfl rfl (fun H locs G => ?_)
  refine lv_aload_n hx hb dX4_digest_218 rfl (lv_at hl 0 rfl) ?_
  refine k_get (v := .long ((31 * (hashM f (f 14).toNatClampNeg 0 ((31 * ((31 * ((31 * ((31 * ((31 * ((31 * ((31 * ((31 * ((31 * ((31 * ((31 * ((31 * ((31 * ((31 * ((31 * ((31 * ((31 * ((31 * ((31 * ((31 * ((31 * ((31 * 2657) + ((z 0).toInt64))) + ((z 1).toInt64))) + ((z 2).toInt64))) + ((f 0).toInt64))) + ((f 4).toInt64))) + ((f 5).toInt64))) + ((f 6).toInt64))) + ((f 7).toInt64))) + ((f 8).toInt64))) + ((s_X4_dueAfter_0 (f 0)).toInt64))) + ((s_X4_lagAt_0 f (f 0)).toInt64))) + ((f 9).toInt64))) + ((f 10).toInt64))) + ((f 11).toInt64))) + ((f 12).toInt64))) + ((f 13).toInt64))) + ((s_X4_dueAfter_1 (f 0)).toInt64))) + ((s_X4_lagAt_1 f (f 0)).toInt64))) + ((f 1).toInt64))) + ((f 2).toInt64))) + ((f 3).toInt64))) + ((f 14).toInt64)))) + sn.toInt64)) S G 0 rfl rfl hiX4 5 (by decide) hf88 rfl dX4_digest_219 ?_
  have es : (s_X4_digest sn f z) = (((31 * (hashM f (f 14).toNatClampNeg 0 ((31 * ((31 * ((31 * ((31 * ((31 * ((31 * ((31 * ((31 * ((31 * ((31 * ((31 * ((31 * ((31 * ((31 * ((31 * ((31 * ((31 * ((31 * ((31 * ((31 * ((31 * ((31 * 2657) + ((z 0).toInt64))) + ((z 1).toInt64))) + ((z 2).toInt64))) + ((f 0).toInt64))) + ((f 4).toInt64))) + ((f 5).toInt64))) + ((f 6).toInt64))) + ((f 7).toInt64))) + ((f 8).toInt64))) + ((s_X4_dueAfter_0 (f 0)).toInt64))) + ((s_X4_lagAt_0 f (f 0)).toInt64))) + ((f 9).toInt64))) + ((f 10).toInt64))) + ((f 11).toInt64))) + ((f 12).toInt64))) + ((f 13).toInt64))) + ((s_X4_dueAfter_1 (f 0)).toInt64))) + ((s_X4_lagAt_1 f (f 0)).toInt64))) + ((f 1).toInt64))) + ((f 2).toInt64))) + ((f 3).toInt64))) + ((f 14).toInt64)))) + sn.toInt64), ((31 * (hashM f (f 14).toNatClampNeg 0 ((31 * ((31 * ((31 * ((31 * ((31 * ((31 * ((31 * ((31 * ((31 * ((31 * ((31 * ((31 * ((31 * ((31 * ((31 * ((31 * ((31 * ((31 * ((31 * ((31 * ((31 * ((31 * 2657) + ((z 0).toInt64))) + ((z 1).toInt64))) + ((z 2).toInt64))) + ((f 0).toInt64))) + ((f 4).toInt64))) + ((f 5).toInt64))) + ((f 6).toInt64))) + ((f 7).toInt64))) + ((f 8).toInt64))) + ((s_X4_dueAfter_0 (f 0)).toInt64))) + ((s_X4_lagAt_0 f (f 0)).toInt64))) + ((f 9).toInt64))) + ((f 10).toInt64))) + ((f 11).toInt64))) + ((f 12).toInt64))) + ((f 13).toInt64))) + ((s_X4_dueAfter_1 (f 0)).toInt64))) + ((s_X4_lagAt_1 f (f 0)).toInt64))) + ((f 1).toInt64))) + ((f 2).toInt64))) + ((f 3).toInt64))) + ((f 14).toInt64)))) + sn.toInt64)) := rfl
  exact k_lret S G hr hlk dX4_digest_222 (by first | (rw [es]; done) | (rw [es]; rfl) | (simp only [es]; done) | (simp only [es]; rfl)) (by first | (rw [es]; done) | (rw [es]; rfl) | (simp only [es]; done) | (simp only [es]; rfl))
