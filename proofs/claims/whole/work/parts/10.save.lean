def rot {α : Type} (f : Nat → α) : Nat → α := fun i => if i = 4 then f 0 else f (i + 1)
theorem Gd.arrq {s : State} {H : Heap} {locs : List Loc} {D : va_G} {A : Nat → Prop} {a : Nat} {tys : List (ClassId × FieldType)} {ws ws1 : va_W} {H0 : Heap} (G : Gd D tys A H0 s ws H locs) (q0 : Nat) {cA : ClassId} {n : Nat} {f : Nat → Option Nat} (g : Nat → Option Nat) (ha : ws[q0]? = some (a, .inl (cA, n, .inr (.inr (.inr (.inr f)))))) (hfg : ∀ i, i < n → f i = g i) (hw : ws.set q0 (a, .inl (cA, n, .inr (.inr (.inr (.inr g))))) = ws1) : Gd D tys A H0 s ws1 H locs := by
  subst hw
  refine ⟨G.1, ?_, G.2.2.1.set ha, G.2.2.2.1, G.2.2.2.2⟩
  refine G.2.1.set G.2.2.1 ha ?_ (fun _ _ => rfl)
  have h0 : H[a]? = some (vp_cell cA (n, .inr (.inr (.inr (.inr f))))) := G.2.1 q0 _ ha
  show H[a]? = some (vp_cell cA (n, .inr (.inr (.inr (.inr g)))))
  rw [h0, vp_cell_q, vp_cell_q]
  congr 1
  unfold arrV
  congr 2
  funext j
  show va_rf (f j.val) = va_rf (g j.val)
  rw [hfg j.val j.isLt]
def scOk (sc : Int32) : Prop := 0 ≤ sc ∧ sc ≤ 5
theorem scOk_cases {sc : Int32} (h : scOk sc) : sc = 0 ∨ sc = 1 ∨ sc = 2 ∨ sc = 3 ∨ sc = 4 ∨ sc = 5 := by
  obtain ⟨N, hN, rfl⟩ : ∃ N : Nat, N ≤ 5 ∧ sc = nI N := nI_of2 (M := 5) (by decide) (Int32.not_lt.mpr h.1) h.2
  rcases (show N = 0 ∨ N = 1 ∨ N = 2 ∨ N = 3 ∨ N = 4 ∨ N = 5 by omega) with rfl | rfl | rfl | rfl | rfl | rfl <;> decide
def sSc (sc : Int32) : Int32 := if sc = 5 then 5 else sc + 1
def sSa (sc : Int32) (sa : Nat → Nat → Nat) : Nat → Nat → Nat := if sc = 5 then rot sa else sa
def sSr (sc : Int32) (sr : Nat → Nat → Int32) (r : Nat → Int32) : Nat → Nat → Int32 := if sc = 5 then va_up (rot sr) 4 r else va_up sr sc.toNatClampNeg r
def sSe (sc : Int32) (se : Nat → Nat → Nat → Int32) (e : Nat → Nat → Int32) : Nat → Nat → Nat → Int32 := if sc = 5 then va_up (rot se) 4 e else va_up se sc.toNatClampNeg e
set_option maxHeartbeats 4000000 in
set_option maxRecDepth 100000 in
theorem c_X3_dropOldestSaved (l : Launch) (D : va_G) (cI cS : ClassId) (x : Nat) (sv : Nat) (tl : Nat) (er : Nat) (sc : Int32) (z : Nat → Int32) (a : Nat → Nat) (r : Nat → Int32) (e : Nat → Nat → Int32) (n0 : Int32) (m0 : Int32) (p0 : Int32) (w0 : Int32) (s0 : Int32) (f0 : Int32) (sa : Nat → Nat → Nat) (sr : Nat → Nat → Int32) (se : Nat → Nat → Nat → Int32) : Ct l yX3_dropOldestSaved wsX3_dropOldestSaved ({ frames := 0, cells := 0, slots := 0, locals := 0 }) D (tyL cI cS) [.ref x] ((x, .inr (3, [.ref (a 0), .ref sv, .ref tl, .ref er, .int sc])) :: (er, .inl (cI, 3, .inl z)) :: stW cI a r e ((tl, .inr (2, [.int n0, .int m0, .int p0, .int w0, .int s0, .int f0])) :: (sv, .inl (cS, 5, .inr (.inr (.inr (.inr (fun i => some (sa i 0))))))) :: stW cI (sa 0) (sr 0) (se 0) (stW cI (sa 1) (sr 1) (se 1) (stW cI (sa 2) (sr 2) (se 2) (stW cI (sa 3) (sr 3) (se 3) (stW cI (sa 4) (sr 4) (se 4) ([]))))))) none ((x, .inr (3, [.ref (a 0), .ref sv, .ref tl, .ref er, .int 4])) :: (er, .inl (cI, 3, .inl z)) :: stW cI a r e ((tl, .inr (2, [.int n0, .int m0, .int p0, .int w0, .int s0, .int f0])) :: (sv, .inl (cS, 5, .inr (.inr (.inr (.inr (fun i => some ((rot sa) i 0))))))) :: stW cI (rot sa 0) (rot sr 0) (rot se 0) (stW cI (rot sa 1) (rot sr 1) (rot se 1) (stW cI (rot sa 2) (rot sr 2) (rot se 2) (stW cI (rot sa 3) (rot sr 3) (rot se 3) (stW cI (rot sa 4) (rot sr 4) (rot se 4) ([]))))))) := by
  refine Ct.of (cc := cX3_dropOldestSaved) (maxL := 3) (ret := none) (by decide) rfl (Nat.le_of_ble_eq_true rfl) ?_
  intro p ev s m args below meth c A ls S hr hlk G hl
  have hx := S.1
  have hb := S.2.1
  have hown : s.vm.findClass RX3 = some m.cls := S.2.2.2.1
  have hts := S.2.2.2.2
  have hl : lv_has ls 3 [(0, .ref x)] := hl
  have hiX3 : ∀ w ∈ wsX30, w ∈ wsX3_dropOldestSaved := by decide +kernel
  have hf16 := hts (.fieldLink RX3 16 "StrikingWork" "saved" "[LStrikingWork$State;") (by decide +kernel)
  have hf33 := hts (.fieldLink RX3 33 "StrikingWork" "savedCount" "I") (by decide +kernel)
  refine lv_aload_n hx hb dX3_dropOldestSaved_0 rfl (lv_at hl 0 rfl) ?_
  refine k_get (v := .ref sv) S G 0 rfl rfl hiX3 1 (by decide) hf16 rfl dX3_dropOldestSaved_1 ?_
  refine lv_iconst (v := 0) hx hb dX3_dropOldestSaved_4 (by decide) ?_
  refine k_aald (x := ((sa 0) 0)) S G 10 1 rfl rfl (by unfold vp_in; decide) rfl dX3_dropOldestSaved_5 ?_
  refine lv_astore_n (lv' := [(1, .ref ((sa 0) 0)), (0, .ref x)]) hx hb dX3_dropOldestSaved_6 rfl hl (by decide) rfl (fun ls hl => ?_)
  refine lv_iconst (v := 1) hx hb dX3_dropOldestSaved_7 (by decide) ?_
  refine lv_istore_n (lv' := [(2, .int 1), (1, .ref ((sa 0) 0)), (0, .ref x)]) hx hb dX3_dropOldestSaved_8 rfl hl (by decide) rfl (fun ls hl => ?_)
  refine lv_iload_n hx hb dX3_dropOldestSaved_9 rfl (lv_at hl 0 rfl) ?_
  refine lv_iconst (v := 5) hx hb dX3_dropOldestSaved_10 (by decide) ?_
  refine lv_icmp_ge (tgt := 34) hx hb dX3_dropOldestSaved_11 (by decide) (fun c_1 => absurd c_1 (by decide)) (fun c_1 => ?_)
  refine lv_aload_n hx hb dX3_dropOldestSaved_14 rfl (lv_at hl 2 rfl) ?_
  refine k_get (v := .ref sv) S G 0 rfl rfl hiX3 1 (by decide) hf16 rfl dX3_dropOldestSaved_15 ?_
  refine lv_iload_n hx hb dX3_dropOldestSaved_18 rfl (lv_at hl 0 rfl) ?_
  refine lv_iconst (v := 1) hx hb dX3_dropOldestSaved_19 (by decide) ?_
  refine lv_isub hx hb dX3_dropOldestSaved_20 ?_
  refine lv_lit (v := 0) (by decide) ?_
  refine lv_aload_n hx hb dX3_dropOldestSaved_21 rfl (lv_at hl 2 rfl) ?_
  refine k_get (v := .ref sv) S G 0 rfl rfl hiX3 1 (by decide) hf16 rfl dX3_dropOldestSaved_22 ?_
  refine lv_iload_n hx hb dX3_dropOldestSaved_25 rfl (lv_at hl 0 rfl) ?_
  refine k_aald (x := ((sa 1) 0)) S G 10 1 rfl rfl (by unfold vp_in; decide) rfl dX3_dropOldestSaved_26 ?_
  refine k_aast (ws1 := ((x, .inr (3, [.ref (a 0), .ref sv, .ref tl, .ref er, .int sc])) :: (er, .inl (cI, 3, .inl z)) :: stW cI a r e ((tl, .inr (2, [.int n0, .int m0, .int p0, .int w0, .int s0, .int f0])) :: (sv, .inl (cS, 5, .inr (.inr (.inr (.inr (va_up (fun i => some (sa i 0)) 0 (some ((sa 1) 0)))))))) :: stW cI (sa 0) (sr 0) (se 0) (stW cI (sa 1) (sr 1) (se 1) (stW cI (sa 2) (sr 2) (se 2) (stW cI (sa 3) (sr 3) (se 3) (stW cI (sa 4) (sr 4) (se 4) ([])))))))) S G 10 1 18 0 rfl rfl rfl rfl (by unfold vp_in; decide) dX3_dropOldestSaved_27 rfl (fun H locs G => ?_)
  refine lv_iinc (v := 2) (lv' := [(2, .int 2), (1, .ref ((sa 0) 0)), (0, .ref x)]) hx hb dX3_dropOldestSaved_28 hl (k := 0) rfl (by decide) (by decide) rfl (fun ls hl => ?_)
  refine lv_goto (tgt := 9) hx hb dX3_dropOldestSaved_31 (by decide) ?_
  refine lv_iload_n hx hb dX3_dropOldestSaved_9 rfl (lv_at hl 0 rfl) ?_
  refine lv_iconst (v := 5) hx hb dX3_dropOldestSaved_10 (by decide) ?_
  refine lv_icmp_ge (tgt := 34) hx hb dX3_dropOldestSaved_11 (by decide) (fun c_2 => absurd c_2 (by decide)) (fun c_2 => ?_)
  refine lv_aload_n hx hb dX3_dropOldestSaved_14 rfl (lv_at hl 2 rfl) ?_
  refine k_get (v := .ref sv) S G 0 rfl rfl hiX3 1 (by decide) hf16 rfl dX3_dropOldestSaved_15 ?_
  refine lv_iload_n hx hb dX3_dropOldestSaved_18 rfl (lv_at hl 0 rfl) ?_
  refine lv_iconst (v := 1) hx hb dX3_dropOldestSaved_19 (by decide) ?_
  refine lv_isub hx hb dX3_dropOldestSaved_20 ?_
  refine lv_lit (v := 1) (by decide) ?_
  refine lv_aload_n hx hb dX3_dropOldestSaved_21 rfl (lv_at hl 2 rfl) ?_
  refine k_get (v := .ref sv) S G 0 rfl rfl hiX3 1 (by decide) hf16 rfl dX3_dropOldestSaved_22 ?_
  refine lv_iload_n hx hb dX3_dropOldestSaved_25 rfl (lv_at hl 0 rfl) ?_
  refine k_aald (x := ((sa 2) 0)) S G 10 1 rfl rfl (by unfold vp_in; decide) rfl dX3_dropOldestSaved_26 ?_
  refine k_aast (ws1 := ((x, .inr (3, [.ref (a 0), .ref sv, .ref tl, .ref er, .int sc])) :: (er, .inl (cI, 3, .inl z)) :: stW cI a r e ((tl, .inr (2, [.int n0, .int m0, .int p0, .int w0, .int s0, .int f0])) :: (sv, .inl (cS, 5, .inr (.inr (.inr (.inr (va_up (va_up (fun i => some (sa i 0)) 0 (some ((sa 1) 0))) 1 (some ((sa 2) 0)))))))) :: stW cI (sa 0) (sr 0) (se 0) (stW cI (sa 1) (sr 1) (se 1) (stW cI (sa 2) (sr 2) (se 2) (stW cI (sa 3) (sr 3) (se 3) (stW cI (sa 4) (sr 4) (se 4) ([])))))))) S G 10 1 25 0 rfl rfl rfl rfl (by unfold vp_in; decide) dX3_dropOldestSaved_27 rfl (fun H locs G => ?_)
  refine lv_iinc (v := 3) (lv' := [(2, .int 3), (1, .ref ((sa 0) 0)), (0, .ref x)]) hx hb dX3_dropOldestSaved_28 hl (k := 0) rfl (by decide) (by decide) rfl (fun ls hl => ?_)
  refine lv_goto (tgt := 9) hx hb dX3_dropOldestSaved_31 (by decide) ?_
  refine lv_iload_n hx hb dX3_dropOldestSaved_9 rfl (lv_at hl 0 rfl) ?_
  refine lv_iconst (v := 5) hx hb dX3_dropOldestSaved_10 (by decide) ?_
  refine lv_icmp_ge (tgt := 34) hx hb dX3_dropOldestSaved_11 (by decide) (fun c_3 => absurd c_3 (by decide)) (fun c_3 => ?_)
  refine lv_aload_n hx hb dX3_dropOldestSaved_14 rfl (lv_at hl 2 rfl) ?_
  refine k_get (v := .ref sv) S G 0 rfl rfl hiX3 1 (by decide) hf16 rfl dX3_dropOldestSaved_15 ?_
  refine lv_iload_n hx hb dX3_dropOldestSaved_18 rfl (lv_at hl 0 rfl) ?_
  refine lv_iconst (v := 1) hx hb dX3_dropOldestSaved_19 (by decide) ?_
  refine lv_isub hx hb dX3_dropOldestSaved_20 ?_
  refine lv_lit (v := 2) (by decide) ?_
  refine lv_aload_n hx hb dX3_dropOldestSaved_21 rfl (lv_at hl 2 rfl) ?_
  refine k_get (v := .ref sv) S G 0 rfl rfl hiX3 1 (by decide) hf16 rfl dX3_dropOldestSaved_22 ?_
  refine lv_iload_n hx hb dX3_dropOldestSaved_25 rfl (lv_at hl 0 rfl) ?_
  refine k_aald (x := ((sa 3) 0)) S G 10 1 rfl rfl (by unfold vp_in; decide) rfl dX3_dropOldestSaved_26 ?_
  refine k_aast (ws1 := ((x, .inr (3, [.ref (a 0), .ref sv, .ref tl, .ref er, .int sc])) :: (er, .inl (cI, 3, .inl z)) :: stW cI a r e ((tl, .inr (2, [.int n0, .int m0, .int p0, .int w0, .int s0, .int f0])) :: (sv, .inl (cS, 5, .inr (.inr (.inr (.inr (va_up (va_up (va_up (fun i => some (sa i 0)) 0 (some ((sa 1) 0))) 1 (some ((sa 2) 0))) 2 (some ((sa 3) 0)))))))) :: stW cI (sa 0) (sr 0) (se 0) (stW cI (sa 1) (sr 1) (se 1) (stW cI (sa 2) (sr 2) (se 2) (stW cI (sa 3) (sr 3) (se 3) (stW cI (sa 4) (sr 4) (se 4) ([])))))))) S G 10 1 32 0 rfl rfl rfl rfl (by unfold vp_in; decide) dX3_dropOldestSaved_27 rfl (fun H locs G => ?_)
  refine lv_iinc (v := 4) (lv' := [(2, .int 4), (1, .ref ((sa 0) 0)), (0, .ref x)]) hx hb dX3_dropOldestSaved_28 hl (k := 0) rfl (by decide) (by decide) rfl (fun ls hl => ?_)
  refine lv_goto (tgt := 9) hx hb dX3_dropOldestSaved_31 (by decide) ?_
  refine lv_iload_n hx hb dX3_dropOldestSaved_9 rfl (lv_at hl 0 rfl) ?_
  refine lv_iconst (v := 5) hx hb dX3_dropOldestSaved_10 (by decide) ?_
  refine lv_icmp_ge (tgt := 34) hx hb dX3_dropOldestSaved_11 (by decide) (fun c_4 => absurd c_4 (by decide)) (fun c_4 => ?_)
  refine lv_aload_n hx hb dX3_dropOldestSaved_14 rfl (lv_at hl 2 rfl) ?_
  refine k_get (v := .ref sv) S G 0 rfl rfl hiX3 1 (by decide) hf16 rfl dX3_dropOldestSaved_15 ?_
  refine lv_iload_n hx hb dX3_dropOldestSaved_18 rfl (lv_at hl 0 rfl) ?_
  refine lv_iconst (v := 1) hx hb dX3_dropOldestSaved_19 (by decide) ?_
  refine lv_isub hx hb dX3_dropOldestSaved_20 ?_
  refine lv_lit (v := 3) (by decide) ?_
  refine lv_aload_n hx hb dX3_dropOldestSaved_21 rfl (lv_at hl 2 rfl) ?_
  refine k_get (v := .ref sv) S G 0 rfl rfl hiX3 1 (by decide) hf16 rfl dX3_dropOldestSaved_22 ?_
  refine lv_iload_n hx hb dX3_dropOldestSaved_25 rfl (lv_at hl 0 rfl) ?_
  refine k_aald (x := ((sa 4) 0)) S G 10 1 rfl rfl (by unfold vp_in; decide) rfl dX3_dropOldestSaved_26 ?_
  refine k_aast (ws1 := ((x, .inr (3, [.ref (a 0), .ref sv, .ref tl, .ref er, .int sc])) :: (er, .inl (cI, 3, .inl z)) :: stW cI a r e ((tl, .inr (2, [.int n0, .int m0, .int p0, .int w0, .int s0, .int f0])) :: (sv, .inl (cS, 5, .inr (.inr (.inr (.inr (va_up (va_up (va_up (va_up (fun i => some (sa i 0)) 0 (some ((sa 1) 0))) 1 (some ((sa 2) 0))) 2 (some ((sa 3) 0))) 3 (some ((sa 4) 0)))))))) :: stW cI (sa 0) (sr 0) (se 0) (stW cI (sa 1) (sr 1) (se 1) (stW cI (sa 2) (sr 2) (se 2) (stW cI (sa 3) (sr 3) (se 3) (stW cI (sa 4) (sr 4) (se 4) ([])))))))) S G 10 1 39 0 rfl rfl rfl rfl (by unfold vp_in; decide) dX3_dropOldestSaved_27 rfl (fun H locs G => ?_)
  refine lv_iinc (v := 5) (lv' := [(2, .int 5), (1, .ref ((sa 0) 0)), (0, .ref x)]) hx hb dX3_dropOldestSaved_28 hl (k := 0) rfl (by decide) (by decide) rfl (fun ls hl => ?_)
  refine lv_goto (tgt := 9) hx hb dX3_dropOldestSaved_31 (by decide) ?_
  refine lv_iload_n hx hb dX3_dropOldestSaved_9 rfl (lv_at hl 0 rfl) ?_
  refine lv_iconst (v := 5) hx hb dX3_dropOldestSaved_10 (by decide) ?_
  refine lv_icmp_ge (tgt := 34) hx hb dX3_dropOldestSaved_11 (by decide) (fun c_5 => ?_) (fun c_5 => absurd c_5 (by decide))
  refine lv_aload_n hx hb dX3_dropOldestSaved_34 rfl (lv_at hl 2 rfl) ?_
  refine k_get (v := .ref sv) S G 0 rfl rfl hiX3 1 (by decide) hf16 rfl dX3_dropOldestSaved_35 ?_
  refine lv_iconst (v := 4) hx hb dX3_dropOldestSaved_38 (by decide) ?_
  refine lv_aload_n hx hb dX3_dropOldestSaved_39 rfl (lv_at hl 1 rfl) ?_
  refine k_aast (ws1 := ((x, .inr (3, [.ref (a 0), .ref sv, .ref tl, .ref er, .int sc])) :: (er, .inl (cI, 3, .inl z)) :: stW cI a r e ((tl, .inr (2, [.int n0, .int m0, .int p0, .int w0, .int s0, .int f0])) :: (sv, .inl (cS, 5, .inr (.inr (.inr (.inr (va_up (va_up (va_up (va_up (va_up (fun i => some (sa i 0)) 0 (some ((sa 1) 0))) 1 (some ((sa 2) 0))) 2 (some ((sa 3) 0))) 3 (some ((sa 4) 0))) 4 (some ((sa 0) 0)))))))) :: stW cI (sa 0) (sr 0) (se 0) (stW cI (sa 1) (sr 1) (se 1) (stW cI (sa 2) (sr 2) (se 2) (stW cI (sa 3) (sr 3) (se 3) (stW cI (sa 4) (sr 4) (se 4) ([])))))))) S G 10 1 11 0 rfl rfl rfl rfl (by unfold vp_in; decide) dX3_dropOldestSaved_40 rfl (fun H locs G => ?_)
  refine lv_aload_n hx hb dX3_dropOldestSaved_41 rfl (lv_at hl 2 rfl) ?_
  refine lv_iconst (v := 4) hx hb dX3_dropOldestSaved_42 (by decide) ?_
  refine k_put (ws1 := ((x, .inr (3, [.ref (a 0), .ref sv, .ref tl, .ref er, .int 4])) :: (er, .inl (cI, 3, .inl z)) :: stW cI a r e ((tl, .inr (2, [.int n0, .int m0, .int p0, .int w0, .int s0, .int f0])) :: (sv, .inl (cS, 5, .inr (.inr (.inr (.inr (va_up (va_up (va_up (va_up (va_up (fun i => some (sa i 0)) 0 (some ((sa 1) 0))) 1 (some ((sa 2) 0))) 2 (some ((sa 3) 0))) 3 (some ((sa 4) 0))) 4 (some ((sa 0) 0)))))))) :: stW cI (sa 0) (sr 0) (se 0) (stW cI (sa 1) (sr 1) (se 1) (stW cI (sa 2) (sr 2) (se 2) (stW cI (sa 3) (sr 3) (se 3) (stW cI (sa 4) (sr 4) (se 4) ([])))))))) S G 0 rfl rfl hiX3 tyX3 tyX3_ok nmX3 4 (by decide) hf33 rfl rfl rfl (Nat.le_of_ble_eq_true rfl) dX3_dropOldestSaved_43 rfl (fun H locs G => ?_)
  have G := Gd.arrq (ws1 := ((x, .inr (3, [.ref (a 0), .ref sv, .ref tl, .ref er, .int 4])) :: (er, .inl (cI, 3, .inl z)) :: stW cI a r e ((tl, .inr (2, [.int n0, .int m0, .int p0, .int w0, .int s0, .int f0])) :: (sv, .inl (cS, 5, .inr (.inr (.inr (.inr (fun i => some ((rot sa) i 0))))))) :: stW cI (sa 0) (sr 0) (se 0) (stW cI (sa 1) (sr 1) (se 1) (stW cI (sa 2) (sr 2) (se 2) (stW cI (sa 3) (sr 3) (se 3) (stW cI (sa 4) (sr 4) (se 4) ([])))))))) G 10 (fun i => some (rot sa i 0)) rfl (fun i hi => by rcases (show i = 0 ∨ i = 1 ∨ i = 2 ∨ i = 3 ∨ i = 4 by omega) with rfl | rfl | rfl | rfl | rfl <;> rfl) rfl
  have G := Gd.sub (ws1 := ((x, .inr (3, [.ref (a 0), .ref sv, .ref tl, .ref er, .int 4])) :: (er, .inl (cI, 3, .inl z)) :: stW cI a r e ((tl, .inr (2, [.int n0, .int m0, .int p0, .int w0, .int s0, .int f0])) :: (sv, .inl (cS, 5, .inr (.inr (.inr (.inr (fun i => some ((rot sa) i 0))))))) :: stW cI (rot sa 0) (rot sr 0) (rot se 0) (stW cI (rot sa 1) (rot sr 1) (rot se 1) (stW cI (rot sa 2) (rot sr 2) (rot se 2) (stW cI (rot sa 3) (rot sr 3) (rot se 3) (stW cI (rot sa 4) (rot sr 4) (rot se 4) ([])))))))) G [0, 1, 2, 3, 4, 5, 6, 7, 8, 9, 10, 18, 19, 20, 21, 22, 23, 24, 25, 26, 27, 28, 29, 30, 31, 32, 33, 34, 35, 36, 37, 38, 39, 40, 41, 42, 43, 44, 45, 11, 12, 13, 14, 15, 16, 17] (by decide +kernel) rfl
  exact k_vret S G hr hlk dX3_dropOldestSaved_46 rfl
set_option maxHeartbeats 4000000 in
set_option maxRecDepth 100000 in
theorem c_X3_save_5 (l : Launch) (D : va_G) (cI cS : ClassId) (x : Nat) (sv : Nat) (tl : Nat) (er : Nat) (z : Nat → Int32) (a : Nat → Nat) (r : Nat → Int32) (e : Nat → Nat → Int32) (n0 : Int32) (m0 : Int32) (p0 : Int32) (w0 : Int32) (s0 : Int32) (f0 : Int32) (sa : Nat → Nat → Nat) (sr : Nat → Nat → Int32) (se : Nat → Nat → Nat → Int32) : Ct l yX3_save wsX3_save ({ frames := 2, cells := 0, slots := 0, locals := 43 }) D (tyL cI cS) [.ref x] ((x, .inr (3, [.ref (a 0), .ref sv, .ref tl, .ref er, .int 5])) :: (er, .inl (cI, 3, .inl z)) :: stW cI a r e ((tl, .inr (2, [.int n0, .int m0, .int p0, .int w0, .int s0, .int f0])) :: (sv, .inl (cS, 5, .inr (.inr (.inr (.inr (fun i => some (sa i 0))))))) :: stW cI (sa 0) (sr 0) (se 0) (stW cI (sa 1) (sr 1) (se 1) (stW cI (sa 2) (sr 2) (se 2) (stW cI (sa 3) (sr 3) (se 3) (stW cI (sa 4) (sr 4) (se 4) ([]))))))) none ((x, .inr (3, [.ref (a 0), .ref sv, .ref tl, .ref er, .int 5])) :: (er, .inl (cI, 3, .inl z)) :: stW cI a r e ((tl, .inr (2, [.int n0, .int m0, .int p0, .int w0, .int s0, .int f0])) :: (sv, .inl (cS, 5, .inr (.inr (.inr (.inr (fun i => some ((rot sa) i 0))))))) :: stW cI (rot sa 0) (rot sr 0) (rot se 0) (stW cI (rot sa 1) (rot sr 1) (rot se 1) (stW cI (rot sa 2) (rot sr 2) (rot se 2) (stW cI (rot sa 3) (rot sr 3) (rot se 3) (stW cI (rot sa 4) r e ([]))))))) := by
  refine Ct.of (cc := cX3_save) (maxL := 1) (ret := none) (by decide) rfl (Nat.le_of_ble_eq_true rfl) ?_
  intro p ev s m args below meth c A ls S hr hlk G hl
  have hx := S.1
  have hb := S.2.1
  have hown : s.vm.findClass RX3 = some m.cls := S.2.2.2.1
  have hts := S.2.2.2.2
  have hl : lv_has ls 1 [(0, .ref x)] := hl
  have hiX3 : ∀ w ∈ wsX30, w ∈ wsX3_save := by decide +kernel
  have hf10 := hts (.fieldLink RX3 10 "StrikingWork" "now" "LStrikingWork$State;") (by decide +kernel)
  have hf16 := hts (.fieldLink RX3 16 "StrikingWork" "saved" "[LStrikingWork$State;") (by decide +kernel)
  have hf33 := hts (.fieldLink RX3 33 "StrikingWork" "savedCount" "I") (by decide +kernel)
  refine lv_aload_n hx hb dX3_save_0 rfl (lv_at hl 0 rfl) ?_
  refine k_get (v := .int 5) S G 0 rfl rfl hiX3 4 (by decide) hf33 rfl dX3_save_1 ?_
  refine lv_iconst (v := 5) hx hb dX3_save_4 (by decide) ?_
  refine lv_icmp_lt (tgt := 12) hx hb dX3_save_5 (by decide) (fun c_1 => absurd c_1 (by decide)) (fun c_1 => ?_)
  refine lv_aload_n hx hb dX3_save_8 rfl (lv_at hl 0 rfl) ?_
  refine k_callA (n := 0) (As := []) (rest := []) (st1 := []) (ws1 := ((x, .inr (3, [.ref (a 0), .ref sv, .ref tl, .ref er, .int 4])) :: (er, .inl (cI, 3, .inl z)) :: stW cI a r e ((tl, .inr (2, [.int n0, .int m0, .int p0, .int w0, .int s0, .int f0])) :: (sv, .inl (cS, 5, .inr (.inr (.inr (.inr (fun i => some ((rot sa) i 0))))))) :: stW cI (rot sa 0) (rot sr 0) (rot se 0) (stW cI (rot sa 1) (rot sr 1) (rot se 1) (stW cI (rot sa 2) (rot sr 2) (rot se 2) (stW cI (rot sa 3) (rot sr 3) (rot se 3) (stW cI (rot sa 4) (rot sr 4) (rot se 4) ([])))))))) S G (c_X3_dropOldestSaved l D cI cS x sv tl er 5 z a r e n0 m0 p0 w0 s0 f0 sa sr se) gX3_save_X3_dropOldestSaved rfl (by decide +kernel) ⟨⟨rfl, rfl⟩, Nat.le_of_ble_eq_true rfl, Nat.le_of_ble_eq_true rfl⟩ 0 rfl rfl rfl hl.1 rfl (Nat.le_of_ble_eq_true rfl) ⟨Nat.zero_le _, Nat.zero_le _⟩ dX3_save_9 rfl rfl (fun H locs G => ?_)
  refine lv_aload_n hx hb dX3_save_12 rfl (lv_at hl 0 rfl) ?_
  refine k_get (v := .ref sv) S G 0 rfl rfl hiX3 1 (by decide) hf16 rfl dX3_save_13 ?_
  refine lv_aload_n hx hb dX3_save_16 rfl (lv_at hl 0 rfl) ?_
  refine k_get (v := .int 4) S G 0 rfl rfl hiX3 4 (by decide) hf33 rfl dX3_save_17 ?_
  refine k_aald (x := ((rot sa 4) 0)) S G 10 1 rfl rfl (by unfold vp_in; decide) rfl dX3_save_20 ?_
  refine lv_aload_n hx hb dX3_save_21 rfl (lv_at hl 0 rfl) ?_
  refine k_get (v := .ref (a 0)) S G 0 rfl rfl hiX3 0 (by decide) hf10 rfl dX3_save_22 ?_
  refine k_callV (n := 1) (As := [.ref (a 0)]) (rest := []) (st1 := []) (ws1 := ((x, .inr (3, [.ref (a 0), .ref sv, .ref tl, .ref er, .int 4])) :: (er, .inl (cI, 3, .inl z)) :: stW cI a r e ((tl, .inr (2, [.int n0, .int m0, .int p0, .int w0, .int s0, .int f0])) :: (sv, .inl (cS, 5, .inr (.inr (.inr (.inr (fun i => some ((rot sa) i 0))))))) :: stW cI (rot sa 0) (rot sr 0) (rot se 0) (stW cI (rot sa 1) (rot sr 1) (rot se 1) (stW cI (rot sa 2) (rot sr 2) (rot se 2) (stW cI (rot sa 3) (rot sr 3) (rot se 3) (stW cI (rot sa 4) r e ([])))))))) S G (c_X0_copyFrom l D cI cS (rot sa 4) (rot sr 4) (rot se 4) a r e) gX3_save_X0_copyFrom rfl (by decide +kernel) ⟨⟨rfl, rfl⟩, Nat.le_of_ble_eq_true rfl, Nat.le_of_ble_eq_true rfl⟩ [39, 40, 41, 42, 43, 44, 45, 2, 3, 4, 5, 6, 7, 8] (by decide) rfl [((rot sa 4) 0), ((rot sa 4) 1), ((rot sa 4) 2), ((rot sa 4) 3), ((rot sa 4) 4), ((rot sa 4) 5), ((rot sa 4) 6), (a 0), (a 1), (a 2), (a 3), (a 4), (a 5), (a 6)] rfl rfl 39 rfl rfl rfl hl.1 rfl (Nat.le_of_ble_eq_true rfl) ⟨Nat.zero_le _, Nat.zero_le _⟩ dX3_save_25 rfl rfl (fun H locs G => ?_)
  refine lv_aload_n hx hb dX3_save_28 rfl (lv_at hl 0 rfl) ?_
  refine lv_dup hx hb dX3_save_29 rfl ?_
  refine k_get (v := .int 4) S G 0 rfl rfl hiX3 4 (by decide) hf33 rfl dX3_save_30 ?_
  refine lv_iconst (v := 1) hx hb dX3_save_33 (by decide) ?_
  refine lv_iadd hx hb dX3_save_34 ?_
  refine lv_lit (v := 5) (by decide) ?_
  refine k_put (ws1 := ((x, .inr (3, [.ref (a 0), .ref sv, .ref tl, .ref er, .int 5])) :: (er, .inl (cI, 3, .inl z)) :: stW cI a r e ((tl, .inr (2, [.int n0, .int m0, .int p0, .int w0, .int s0, .int f0])) :: (sv, .inl (cS, 5, .inr (.inr (.inr (.inr (fun i => some ((rot sa) i 0))))))) :: stW cI (rot sa 0) (rot sr 0) (rot se 0) (stW cI (rot sa 1) (rot sr 1) (rot se 1) (stW cI (rot sa 2) (rot sr 2) (rot se 2) (stW cI (rot sa 3) (rot sr 3) (rot se 3) (stW cI (rot sa 4) r e ([])))))))) S G 0 rfl rfl hiX3 tyX3 tyX3_ok nmX3 4 (by decide) hf33 rfl rfl rfl (Nat.le_of_ble_eq_true rfl) dX3_save_35 rfl (fun H locs G => ?_)
  exact k_vret S G hr hlk dX3_save_38 rfl
set_option maxHeartbeats 4000000 in
set_option maxRecDepth 100000 in
theorem c_X3_save_0 (l : Launch) (D : va_G) (cI cS : ClassId) (x : Nat) (sv : Nat) (tl : Nat) (er : Nat) (z : Nat → Int32) (a : Nat → Nat) (r : Nat → Int32) (e : Nat → Nat → Int32) (n0 : Int32) (m0 : Int32) (p0 : Int32) (w0 : Int32) (s0 : Int32) (f0 : Int32) (sa : Nat → Nat → Nat) (sr : Nat → Nat → Int32) (se : Nat → Nat → Nat → Int32) : Ct l yX3_save wsX3_save ({ frames := 2, cells := 0, slots := 0, locals := 43 }) D (tyL cI cS) [.ref x] ((x, .inr (3, [.ref (a 0), .ref sv, .ref tl, .ref er, .int 0])) :: (er, .inl (cI, 3, .inl z)) :: stW cI a r e ((tl, .inr (2, [.int n0, .int m0, .int p0, .int w0, .int s0, .int f0])) :: (sv, .inl (cS, 5, .inr (.inr (.inr (.inr (fun i => some (sa i 0))))))) :: stW cI (sa 0) (sr 0) (se 0) (stW cI (sa 1) (sr 1) (se 1) (stW cI (sa 2) (sr 2) (se 2) (stW cI (sa 3) (sr 3) (se 3) (stW cI (sa 4) (sr 4) (se 4) ([]))))))) none ((x, .inr (3, [.ref (a 0), .ref sv, .ref tl, .ref er, .int 1])) :: (er, .inl (cI, 3, .inl z)) :: stW cI a r e ((tl, .inr (2, [.int n0, .int m0, .int p0, .int w0, .int s0, .int f0])) :: (sv, .inl (cS, 5, .inr (.inr (.inr (.inr (fun i => some (sa i 0))))))) :: stW cI (sa 0) r e (stW cI (sa 1) (sr 1) (se 1) (stW cI (sa 2) (sr 2) (se 2) (stW cI (sa 3) (sr 3) (se 3) (stW cI (sa 4) (sr 4) (se 4) ([]))))))) := by
  refine Ct.of (cc := cX3_save) (maxL := 1) (ret := none) (by decide) rfl (Nat.le_of_ble_eq_true rfl) ?_
  intro p ev s m args below meth c A ls S hr hlk G hl
  have hx := S.1
  have hb := S.2.1
  have hown : s.vm.findClass RX3 = some m.cls := S.2.2.2.1
  have hts := S.2.2.2.2
  have hl : lv_has ls 1 [(0, .ref x)] := hl
  have hiX3 : ∀ w ∈ wsX30, w ∈ wsX3_save := by decide +kernel
  have hf10 := hts (.fieldLink RX3 10 "StrikingWork" "now" "LStrikingWork$State;") (by decide +kernel)
  have hf16 := hts (.fieldLink RX3 16 "StrikingWork" "saved" "[LStrikingWork$State;") (by decide +kernel)
  have hf33 := hts (.fieldLink RX3 33 "StrikingWork" "savedCount" "I") (by decide +kernel)
  refine lv_aload_n hx hb dX3_save_0 rfl (lv_at hl 0 rfl) ?_
  refine k_get (v := .int 0) S G 0 rfl rfl hiX3 4 (by decide) hf33 rfl dX3_save_1 ?_
  refine lv_iconst (v := 5) hx hb dX3_save_4 (by decide) ?_
  refine lv_icmp_lt (tgt := 12) hx hb dX3_save_5 (by decide) (fun c_1 => ?_) (fun c_1 => absurd c_1 (by decide))
  refine lv_aload_n hx hb dX3_save_12 rfl (lv_at hl 0 rfl) ?_
  refine k_get (v := .ref sv) S G 0 rfl rfl hiX3 1 (by decide) hf16 rfl dX3_save_13 ?_
  refine lv_aload_n hx hb dX3_save_16 rfl (lv_at hl 0 rfl) ?_
  refine k_get (v := .int 0) S G 0 rfl rfl hiX3 4 (by decide) hf33 rfl dX3_save_17 ?_
  refine k_aald (x := ((sa 0) 0)) S G 10 1 rfl rfl (by unfold vp_in; decide) rfl dX3_save_20 ?_
  refine lv_aload_n hx hb dX3_save_21 rfl (lv_at hl 0 rfl) ?_
  refine k_get (v := .ref (a 0)) S G 0 rfl rfl hiX3 0 (by decide) hf10 rfl dX3_save_22 ?_
  refine k_callV (n := 1) (As := [.ref (a 0)]) (rest := []) (st1 := []) (ws1 := ((x, .inr (3, [.ref (a 0), .ref sv, .ref tl, .ref er, .int 0])) :: (er, .inl (cI, 3, .inl z)) :: stW cI a r e ((tl, .inr (2, [.int n0, .int m0, .int p0, .int w0, .int s0, .int f0])) :: (sv, .inl (cS, 5, .inr (.inr (.inr (.inr (fun i => some (sa i 0))))))) :: stW cI (sa 0) r e (stW cI (sa 1) (sr 1) (se 1) (stW cI (sa 2) (sr 2) (se 2) (stW cI (sa 3) (sr 3) (se 3) (stW cI (sa 4) (sr 4) (se 4) ([])))))))) S G (c_X0_copyFrom l D cI cS (sa 0) (sr 0) (se 0) a r e) gX3_save_X0_copyFrom rfl (by decide +kernel) ⟨⟨rfl, rfl⟩, Nat.le_of_ble_eq_true rfl, Nat.le_of_ble_eq_true rfl⟩ [11, 12, 13, 14, 15, 16, 17, 2, 3, 4, 5, 6, 7, 8] (by decide) rfl [((sa 0) 0), ((sa 0) 1), ((sa 0) 2), ((sa 0) 3), ((sa 0) 4), ((sa 0) 5), ((sa 0) 6), (a 0), (a 1), (a 2), (a 3), (a 4), (a 5), (a 6)] rfl rfl 11 rfl rfl rfl hl.1 rfl (Nat.le_of_ble_eq_true rfl) ⟨Nat.zero_le _, Nat.zero_le _⟩ dX3_save_25 rfl rfl (fun H locs G => ?_)
  refine lv_aload_n hx hb dX3_save_28 rfl (lv_at hl 0 rfl) ?_
  refine lv_dup hx hb dX3_save_29 rfl ?_
  refine k_get (v := .int 0) S G 0 rfl rfl hiX3 4 (by decide) hf33 rfl dX3_save_30 ?_
  refine lv_iconst (v := 1) hx hb dX3_save_33 (by decide) ?_
  refine lv_iadd hx hb dX3_save_34 ?_
  refine lv_lit (v := 1) (by decide) ?_
  refine k_put (ws1 := ((x, .inr (3, [.ref (a 0), .ref sv, .ref tl, .ref er, .int 1])) :: (er, .inl (cI, 3, .inl z)) :: stW cI a r e ((tl, .inr (2, [.int n0, .int m0, .int p0, .int w0, .int s0, .int f0])) :: (sv, .inl (cS, 5, .inr (.inr (.inr (.inr (fun i => some (sa i 0))))))) :: stW cI (sa 0) r e (stW cI (sa 1) (sr 1) (se 1) (stW cI (sa 2) (sr 2) (se 2) (stW cI (sa 3) (sr 3) (se 3) (stW cI (sa 4) (sr 4) (se 4) ([])))))))) S G 0 rfl rfl hiX3 tyX3 tyX3_ok nmX3 4 (by decide) hf33 rfl rfl rfl (Nat.le_of_ble_eq_true rfl) dX3_save_35 rfl (fun H locs G => ?_)
  exact k_vret S G hr hlk dX3_save_38 rfl
set_option maxHeartbeats 4000000 in
set_option maxRecDepth 100000 in
theorem c_X3_save_1 (l : Launch) (D : va_G) (cI cS : ClassId) (x : Nat) (sv : Nat) (tl : Nat) (er : Nat) (z : Nat → Int32) (a : Nat → Nat) (r : Nat → Int32) (e : Nat → Nat → Int32) (n0 : Int32) (m0 : Int32) (p0 : Int32) (w0 : Int32) (s0 : Int32) (f0 : Int32) (sa : Nat → Nat → Nat) (sr : Nat → Nat → Int32) (se : Nat → Nat → Nat → Int32) : Ct l yX3_save wsX3_save ({ frames := 2, cells := 0, slots := 0, locals := 43 }) D (tyL cI cS) [.ref x] ((x, .inr (3, [.ref (a 0), .ref sv, .ref tl, .ref er, .int 1])) :: (er, .inl (cI, 3, .inl z)) :: stW cI a r e ((tl, .inr (2, [.int n0, .int m0, .int p0, .int w0, .int s0, .int f0])) :: (sv, .inl (cS, 5, .inr (.inr (.inr (.inr (fun i => some (sa i 0))))))) :: stW cI (sa 0) (sr 0) (se 0) (stW cI (sa 1) (sr 1) (se 1) (stW cI (sa 2) (sr 2) (se 2) (stW cI (sa 3) (sr 3) (se 3) (stW cI (sa 4) (sr 4) (se 4) ([]))))))) none ((x, .inr (3, [.ref (a 0), .ref sv, .ref tl, .ref er, .int 2])) :: (er, .inl (cI, 3, .inl z)) :: stW cI a r e ((tl, .inr (2, [.int n0, .int m0, .int p0, .int w0, .int s0, .int f0])) :: (sv, .inl (cS, 5, .inr (.inr (.inr (.inr (fun i => some (sa i 0))))))) :: stW cI (sa 0) (sr 0) (se 0) (stW cI (sa 1) r e (stW cI (sa 2) (sr 2) (se 2) (stW cI (sa 3) (sr 3) (se 3) (stW cI (sa 4) (sr 4) (se 4) ([]))))))) := by
  refine Ct.of (cc := cX3_save) (maxL := 1) (ret := none) (by decide) rfl (Nat.le_of_ble_eq_true rfl) ?_
  intro p ev s m args below meth c A ls S hr hlk G hl
  have hx := S.1
  have hb := S.2.1
  have hown : s.vm.findClass RX3 = some m.cls := S.2.2.2.1
  have hts := S.2.2.2.2
  have hl : lv_has ls 1 [(0, .ref x)] := hl
  have hiX3 : ∀ w ∈ wsX30, w ∈ wsX3_save := by decide +kernel
  have hf10 := hts (.fieldLink RX3 10 "StrikingWork" "now" "LStrikingWork$State;") (by decide +kernel)
  have hf16 := hts (.fieldLink RX3 16 "StrikingWork" "saved" "[LStrikingWork$State;") (by decide +kernel)
  have hf33 := hts (.fieldLink RX3 33 "StrikingWork" "savedCount" "I") (by decide +kernel)
  refine lv_aload_n hx hb dX3_save_0 rfl (lv_at hl 0 rfl) ?_
  refine k_get (v := .int 1) S G 0 rfl rfl hiX3 4 (by decide) hf33 rfl dX3_save_1 ?_
  refine lv_iconst (v := 5) hx hb dX3_save_4 (by decide) ?_
  refine lv_icmp_lt (tgt := 12) hx hb dX3_save_5 (by decide) (fun c_1 => ?_) (fun c_1 => absurd c_1 (by decide))
  refine lv_aload_n hx hb dX3_save_12 rfl (lv_at hl 0 rfl) ?_
  refine k_get (v := .ref sv) S G 0 rfl rfl hiX3 1 (by decide) hf16 rfl dX3_save_13 ?_
  refine lv_aload_n hx hb dX3_save_16 rfl (lv_at hl 0 rfl) ?_
  refine k_get (v := .int 1) S G 0 rfl rfl hiX3 4 (by decide) hf33 rfl dX3_save_17 ?_
  refine k_aald (x := ((sa 1) 0)) S G 10 1 rfl rfl (by unfold vp_in; decide) rfl dX3_save_20 ?_
  refine lv_aload_n hx hb dX3_save_21 rfl (lv_at hl 0 rfl) ?_
  refine k_get (v := .ref (a 0)) S G 0 rfl rfl hiX3 0 (by decide) hf10 rfl dX3_save_22 ?_
  refine k_callV (n := 1) (As := [.ref (a 0)]) (rest := []) (st1 := []) (ws1 := ((x, .inr (3, [.ref (a 0), .ref sv, .ref tl, .ref er, .int 1])) :: (er, .inl (cI, 3, .inl z)) :: stW cI a r e ((tl, .inr (2, [.int n0, .int m0, .int p0, .int w0, .int s0, .int f0])) :: (sv, .inl (cS, 5, .inr (.inr (.inr (.inr (fun i => some (sa i 0))))))) :: stW cI (sa 0) (sr 0) (se 0) (stW cI (sa 1) r e (stW cI (sa 2) (sr 2) (se 2) (stW cI (sa 3) (sr 3) (se 3) (stW cI (sa 4) (sr 4) (se 4) ([])))))))) S G (c_X0_copyFrom l D cI cS (sa 1) (sr 1) (se 1) a r e) gX3_save_X0_copyFrom rfl (by decide +kernel) ⟨⟨rfl, rfl⟩, Nat.le_of_ble_eq_true rfl, Nat.le_of_ble_eq_true rfl⟩ [18, 19, 20, 21, 22, 23, 24, 2, 3, 4, 5, 6, 7, 8] (by decide) rfl [((sa 1) 0), ((sa 1) 1), ((sa 1) 2), ((sa 1) 3), ((sa 1) 4), ((sa 1) 5), ((sa 1) 6), (a 0), (a 1), (a 2), (a 3), (a 4), (a 5), (a 6)] rfl rfl 18 rfl rfl rfl hl.1 rfl (Nat.le_of_ble_eq_true rfl) ⟨Nat.zero_le _, Nat.zero_le _⟩ dX3_save_25 rfl rfl (fun H locs G => ?_)
  refine lv_aload_n hx hb dX3_save_28 rfl (lv_at hl 0 rfl) ?_
  refine lv_dup hx hb dX3_save_29 rfl ?_
  refine k_get (v := .int 1) S G 0 rfl rfl hiX3 4 (by decide) hf33 rfl dX3_save_30 ?_
  refine lv_iconst (v := 1) hx hb dX3_save_33 (by decide) ?_
  refine lv_iadd hx hb dX3_save_34 ?_
  refine lv_lit (v := 2) (by decide) ?_
  refine k_put (ws1 := ((x, .inr (3, [.ref (a 0), .ref sv, .ref tl, .ref er, .int 2])) :: (er, .inl (cI, 3, .inl z)) :: stW cI a r e ((tl, .inr (2, [.int n0, .int m0, .int p0, .int w0, .int s0, .int f0])) :: (sv, .inl (cS, 5, .inr (.inr (.inr (.inr (fun i => some (sa i 0))))))) :: stW cI (sa 0) (sr 0) (se 0) (stW cI (sa 1) r e (stW cI (sa 2) (sr 2) (se 2) (stW cI (sa 3) (sr 3) (se 3) (stW cI (sa 4) (sr 4) (se 4) ([])))))))) S G 0 rfl rfl hiX3 tyX3 tyX3_ok nmX3 4 (by decide) hf33 rfl rfl rfl (Nat.le_of_ble_eq_true rfl) dX3_save_35 rfl (fun H locs G => ?_)
  exact k_vret S G hr hlk dX3_save_38 rfl
set_option maxHeartbeats 4000000 in
set_option maxRecDepth 100000 in
theorem c_X3_save_2 (l : Launch) (D : va_G) (cI cS : ClassId) (x : Nat) (sv : Nat) (tl : Nat) (er : Nat) (z : Nat → Int32) (a : Nat → Nat) (r : Nat → Int32) (e : Nat → Nat → Int32) (n0 : Int32) (m0 : Int32) (p0 : Int32) (w0 : Int32) (s0 : Int32) (f0 : Int32) (sa : Nat → Nat → Nat) (sr : Nat → Nat → Int32) (se : Nat → Nat → Nat → Int32) : Ct l yX3_save wsX3_save ({ frames := 2, cells := 0, slots := 0, locals := 43 }) D (tyL cI cS) [.ref x] ((x, .inr (3, [.ref (a 0), .ref sv, .ref tl, .ref er, .int 2])) :: (er, .inl (cI, 3, .inl z)) :: stW cI a r e ((tl, .inr (2, [.int n0, .int m0, .int p0, .int w0, .int s0, .int f0])) :: (sv, .inl (cS, 5, .inr (.inr (.inr (.inr (fun i => some (sa i 0))))))) :: stW cI (sa 0) (sr 0) (se 0) (stW cI (sa 1) (sr 1) (se 1) (stW cI (sa 2) (sr 2) (se 2) (stW cI (sa 3) (sr 3) (se 3) (stW cI (sa 4) (sr 4) (se 4) ([]))))))) none ((x, .inr (3, [.ref (a 0), .ref sv, .ref tl, .ref er, .int 3])) :: (er, .inl (cI, 3, .inl z)) :: stW cI a r e ((tl, .inr (2, [.int n0, .int m0, .int p0, .int w0, .int s0, .int f0])) :: (sv, .inl (cS, 5, .inr (.inr (.inr (.inr (fun i => some (sa i 0))))))) :: stW cI (sa 0) (sr 0) (se 0) (stW cI (sa 1) (sr 1) (se 1) (stW cI (sa 2) r e (stW cI (sa 3) (sr 3) (se 3) (stW cI (sa 4) (sr 4) (se 4) ([]))))))) := by
  refine Ct.of (cc := cX3_save) (maxL := 1) (ret := none) (by decide) rfl (Nat.le_of_ble_eq_true rfl) ?_
  intro p ev s m args below meth c A ls S hr hlk G hl
  have hx := S.1
  have hb := S.2.1
  have hown : s.vm.findClass RX3 = some m.cls := S.2.2.2.1
  have hts := S.2.2.2.2
  have hl : lv_has ls 1 [(0, .ref x)] := hl
  have hiX3 : ∀ w ∈ wsX30, w ∈ wsX3_save := by decide +kernel
  have hf10 := hts (.fieldLink RX3 10 "StrikingWork" "now" "LStrikingWork$State;") (by decide +kernel)
  have hf16 := hts (.fieldLink RX3 16 "StrikingWork" "saved" "[LStrikingWork$State;") (by decide +kernel)
  have hf33 := hts (.fieldLink RX3 33 "StrikingWork" "savedCount" "I") (by decide +kernel)
  refine lv_aload_n hx hb dX3_save_0 rfl (lv_at hl 0 rfl) ?_
  refine k_get (v := .int 2) S G 0 rfl rfl hiX3 4 (by decide) hf33 rfl dX3_save_1 ?_
  refine lv_iconst (v := 5) hx hb dX3_save_4 (by decide) ?_
  refine lv_icmp_lt (tgt := 12) hx hb dX3_save_5 (by decide) (fun c_1 => ?_) (fun c_1 => absurd c_1 (by decide))
  refine lv_aload_n hx hb dX3_save_12 rfl (lv_at hl 0 rfl) ?_
  refine k_get (v := .ref sv) S G 0 rfl rfl hiX3 1 (by decide) hf16 rfl dX3_save_13 ?_
  refine lv_aload_n hx hb dX3_save_16 rfl (lv_at hl 0 rfl) ?_
  refine k_get (v := .int 2) S G 0 rfl rfl hiX3 4 (by decide) hf33 rfl dX3_save_17 ?_
  refine k_aald (x := ((sa 2) 0)) S G 10 1 rfl rfl (by unfold vp_in; decide) rfl dX3_save_20 ?_
  refine lv_aload_n hx hb dX3_save_21 rfl (lv_at hl 0 rfl) ?_
  refine k_get (v := .ref (a 0)) S G 0 rfl rfl hiX3 0 (by decide) hf10 rfl dX3_save_22 ?_
  refine k_callV (n := 1) (As := [.ref (a 0)]) (rest := []) (st1 := []) (ws1 := ((x, .inr (3, [.ref (a 0), .ref sv, .ref tl, .ref er, .int 2])) :: (er, .inl (cI, 3, .inl z)) :: stW cI a r e ((tl, .inr (2, [.int n0, .int m0, .int p0, .int w0, .int s0, .int f0])) :: (sv, .inl (cS, 5, .inr (.inr (.inr (.inr (fun i => some (sa i 0))))))) :: stW cI (sa 0) (sr 0) (se 0) (stW cI (sa 1) (sr 1) (se 1) (stW cI (sa 2) r e (stW cI (sa 3) (sr 3) (se 3) (stW cI (sa 4) (sr 4) (se 4) ([])))))))) S G (c_X0_copyFrom l D cI cS (sa 2) (sr 2) (se 2) a r e) gX3_save_X0_copyFrom rfl (by decide +kernel) ⟨⟨rfl, rfl⟩, Nat.le_of_ble_eq_true rfl, Nat.le_of_ble_eq_true rfl⟩ [25, 26, 27, 28, 29, 30, 31, 2, 3, 4, 5, 6, 7, 8] (by decide) rfl [((sa 2) 0), ((sa 2) 1), ((sa 2) 2), ((sa 2) 3), ((sa 2) 4), ((sa 2) 5), ((sa 2) 6), (a 0), (a 1), (a 2), (a 3), (a 4), (a 5), (a 6)] rfl rfl 25 rfl rfl rfl hl.1 rfl (Nat.le_of_ble_eq_true rfl) ⟨Nat.zero_le _, Nat.zero_le _⟩ dX3_save_25 rfl rfl (fun H locs G => ?_)
  refine lv_aload_n hx hb dX3_save_28 rfl (lv_at hl 0 rfl) ?_
  refine lv_dup hx hb dX3_save_29 rfl ?_
  refine k_get (v := .int 2) S G 0 rfl rfl hiX3 4 (by decide) hf33 rfl dX3_save_30 ?_
  refine lv_iconst (v := 1) hx hb dX3_save_33 (by decide) ?_
  refine lv_iadd hx hb dX3_save_34 ?_
  refine lv_lit (v := 3) (by decide) ?_
  refine k_put (ws1 := ((x, .inr (3, [.ref (a 0), .ref sv, .ref tl, .ref er, .int 3])) :: (er, .inl (cI, 3, .inl z)) :: stW cI a r e ((tl, .inr (2, [.int n0, .int m0, .int p0, .int w0, .int s0, .int f0])) :: (sv, .inl (cS, 5, .inr (.inr (.inr (.inr (fun i => some (sa i 0))))))) :: stW cI (sa 0) (sr 0) (se 0) (stW cI (sa 1) (sr 1) (se 1) (stW cI (sa 2) r e (stW cI (sa 3) (sr 3) (se 3) (stW cI (sa 4) (sr 4) (se 4) ([])))))))) S G 0 rfl rfl hiX3 tyX3 tyX3_ok nmX3 4 (by decide) hf33 rfl rfl rfl (Nat.le_of_ble_eq_true rfl) dX3_save_35 rfl (fun H locs G => ?_)
  exact k_vret S G hr hlk dX3_save_38 rfl
set_option maxHeartbeats 4000000 in
set_option maxRecDepth 100000 in
theorem c_X3_save_3 (l : Launch) (D : va_G) (cI cS : ClassId) (x : Nat) (sv : Nat) (tl : Nat) (er : Nat) (z : Nat → Int32) (a : Nat → Nat) (r : Nat → Int32) (e : Nat → Nat → Int32) (n0 : Int32) (m0 : Int32) (p0 : Int32) (w0 : Int32) (s0 : Int32) (f0 : Int32) (sa : Nat → Nat → Nat) (sr : Nat → Nat → Int32) (se : Nat → Nat → Nat → Int32) : Ct l yX3_save wsX3_save ({ frames := 2, cells := 0, slots := 0, locals := 43 }) D (tyL cI cS) [.ref x] ((x, .inr (3, [.ref (a 0), .ref sv, .ref tl, .ref er, .int 3])) :: (er, .inl (cI, 3, .inl z)) :: stW cI a r e ((tl, .inr (2, [.int n0, .int m0, .int p0, .int w0, .int s0, .int f0])) :: (sv, .inl (cS, 5, .inr (.inr (.inr (.inr (fun i => some (sa i 0))))))) :: stW cI (sa 0) (sr 0) (se 0) (stW cI (sa 1) (sr 1) (se 1) (stW cI (sa 2) (sr 2) (se 2) (stW cI (sa 3) (sr 3) (se 3) (stW cI (sa 4) (sr 4) (se 4) ([]))))))) none ((x, .inr (3, [.ref (a 0), .ref sv, .ref tl, .ref er, .int 4])) :: (er, .inl (cI, 3, .inl z)) :: stW cI a r e ((tl, .inr (2, [.int n0, .int m0, .int p0, .int w0, .int s0, .int f0])) :: (sv, .inl (cS, 5, .inr (.inr (.inr (.inr (fun i => some (sa i 0))))))) :: stW cI (sa 0) (sr 0) (se 0) (stW cI (sa 1) (sr 1) (se 1) (stW cI (sa 2) (sr 2) (se 2) (stW cI (sa 3) r e (stW cI (sa 4) (sr 4) (se 4) ([]))))))) := by
  refine Ct.of (cc := cX3_save) (maxL := 1) (ret := none) (by decide) rfl (Nat.le_of_ble_eq_true rfl) ?_
  intro p ev s m args below meth c A ls S hr hlk G hl
  have hx := S.1
  have hb := S.2.1
  have hown : s.vm.findClass RX3 = some m.cls := S.2.2.2.1
  have hts := S.2.2.2.2
  have hl : lv_has ls 1 [(0, .ref x)] := hl
  have hiX3 : ∀ w ∈ wsX30, w ∈ wsX3_save := by decide +kernel
  have hf10 := hts (.fieldLink RX3 10 "StrikingWork" "now" "LStrikingWork$State;") (by decide +kernel)
  have hf16 := hts (.fieldLink RX3 16 "StrikingWork" "saved" "[LStrikingWork$State;") (by decide +kernel)
  have hf33 := hts (.fieldLink RX3 33 "StrikingWork" "savedCount" "I") (by decide +kernel)
  refine lv_aload_n hx hb dX3_save_0 rfl (lv_at hl 0 rfl) ?_
  refine k_get (v := .int 3) S G 0 rfl rfl hiX3 4 (by decide) hf33 rfl dX3_save_1 ?_
  refine lv_iconst (v := 5) hx hb dX3_save_4 (by decide) ?_
  refine lv_icmp_lt (tgt := 12) hx hb dX3_save_5 (by decide) (fun c_1 => ?_) (fun c_1 => absurd c_1 (by decide))
  refine lv_aload_n hx hb dX3_save_12 rfl (lv_at hl 0 rfl) ?_
  refine k_get (v := .ref sv) S G 0 rfl rfl hiX3 1 (by decide) hf16 rfl dX3_save_13 ?_
  refine lv_aload_n hx hb dX3_save_16 rfl (lv_at hl 0 rfl) ?_
  refine k_get (v := .int 3) S G 0 rfl rfl hiX3 4 (by decide) hf33 rfl dX3_save_17 ?_
  refine k_aald (x := ((sa 3) 0)) S G 10 1 rfl rfl (by unfold vp_in; decide) rfl dX3_save_20 ?_
  refine lv_aload_n hx hb dX3_save_21 rfl (lv_at hl 0 rfl) ?_
  refine k_get (v := .ref (a 0)) S G 0 rfl rfl hiX3 0 (by decide) hf10 rfl dX3_save_22 ?_
  refine k_callV (n := 1) (As := [.ref (a 0)]) (rest := []) (st1 := []) (ws1 := ((x, .inr (3, [.ref (a 0), .ref sv, .ref tl, .ref er, .int 3])) :: (er, .inl (cI, 3, .inl z)) :: stW cI a r e ((tl, .inr (2, [.int n0, .int m0, .int p0, .int w0, .int s0, .int f0])) :: (sv, .inl (cS, 5, .inr (.inr (.inr (.inr (fun i => some (sa i 0))))))) :: stW cI (sa 0) (sr 0) (se 0) (stW cI (sa 1) (sr 1) (se 1) (stW cI (sa 2) (sr 2) (se 2) (stW cI (sa 3) r e (stW cI (sa 4) (sr 4) (se 4) ([])))))))) S G (c_X0_copyFrom l D cI cS (sa 3) (sr 3) (se 3) a r e) gX3_save_X0_copyFrom rfl (by decide +kernel) ⟨⟨rfl, rfl⟩, Nat.le_of_ble_eq_true rfl, Nat.le_of_ble_eq_true rfl⟩ [32, 33, 34, 35, 36, 37, 38, 2, 3, 4, 5, 6, 7, 8] (by decide) rfl [((sa 3) 0), ((sa 3) 1), ((sa 3) 2), ((sa 3) 3), ((sa 3) 4), ((sa 3) 5), ((sa 3) 6), (a 0), (a 1), (a 2), (a 3), (a 4), (a 5), (a 6)] rfl rfl 32 rfl rfl rfl hl.1 rfl (Nat.le_of_ble_eq_true rfl) ⟨Nat.zero_le _, Nat.zero_le _⟩ dX3_save_25 rfl rfl (fun H locs G => ?_)
  refine lv_aload_n hx hb dX3_save_28 rfl (lv_at hl 0 rfl) ?_
  refine lv_dup hx hb dX3_save_29 rfl ?_
  refine k_get (v := .int 3) S G 0 rfl rfl hiX3 4 (by decide) hf33 rfl dX3_save_30 ?_
  refine lv_iconst (v := 1) hx hb dX3_save_33 (by decide) ?_
  refine lv_iadd hx hb dX3_save_34 ?_
  refine lv_lit (v := 4) (by decide) ?_
  refine k_put (ws1 := ((x, .inr (3, [.ref (a 0), .ref sv, .ref tl, .ref er, .int 4])) :: (er, .inl (cI, 3, .inl z)) :: stW cI a r e ((tl, .inr (2, [.int n0, .int m0, .int p0, .int w0, .int s0, .int f0])) :: (sv, .inl (cS, 5, .inr (.inr (.inr (.inr (fun i => some (sa i 0))))))) :: stW cI (sa 0) (sr 0) (se 0) (stW cI (sa 1) (sr 1) (se 1) (stW cI (sa 2) (sr 2) (se 2) (stW cI (sa 3) r e (stW cI (sa 4) (sr 4) (se 4) ([])))))))) S G 0 rfl rfl hiX3 tyX3 tyX3_ok nmX3 4 (by decide) hf33 rfl rfl rfl (Nat.le_of_ble_eq_true rfl) dX3_save_35 rfl (fun H locs G => ?_)
  exact k_vret S G hr hlk dX3_save_38 rfl
set_option maxHeartbeats 4000000 in
set_option maxRecDepth 100000 in
theorem c_X3_save_4 (l : Launch) (D : va_G) (cI cS : ClassId) (x : Nat) (sv : Nat) (tl : Nat) (er : Nat) (z : Nat → Int32) (a : Nat → Nat) (r : Nat → Int32) (e : Nat → Nat → Int32) (n0 : Int32) (m0 : Int32) (p0 : Int32) (w0 : Int32) (s0 : Int32) (f0 : Int32) (sa : Nat → Nat → Nat) (sr : Nat → Nat → Int32) (se : Nat → Nat → Nat → Int32) : Ct l yX3_save wsX3_save ({ frames := 2, cells := 0, slots := 0, locals := 43 }) D (tyL cI cS) [.ref x] ((x, .inr (3, [.ref (a 0), .ref sv, .ref tl, .ref er, .int 4])) :: (er, .inl (cI, 3, .inl z)) :: stW cI a r e ((tl, .inr (2, [.int n0, .int m0, .int p0, .int w0, .int s0, .int f0])) :: (sv, .inl (cS, 5, .inr (.inr (.inr (.inr (fun i => some (sa i 0))))))) :: stW cI (sa 0) (sr 0) (se 0) (stW cI (sa 1) (sr 1) (se 1) (stW cI (sa 2) (sr 2) (se 2) (stW cI (sa 3) (sr 3) (se 3) (stW cI (sa 4) (sr 4) (se 4) ([]))))))) none ((x, .inr (3, [.ref (a 0), .ref sv, .ref tl, .ref er, .int 5])) :: (er, .inl (cI, 3, .inl z)) :: stW cI a r e ((tl, .inr (2, [.int n0, .int m0, .int p0, .int w0, .int s0, .int f0])) :: (sv, .inl (cS, 5, .inr (.inr (.inr (.inr (fun i => some (sa i 0))))))) :: stW cI (sa 0) (sr 0) (se 0) (stW cI (sa 1) (sr 1) (se 1) (stW cI (sa 2) (sr 2) (se 2) (stW cI (sa 3) (sr 3) (se 3) (stW cI (sa 4) r e ([]))))))) := by
  refine Ct.of (cc := cX3_save) (maxL := 1) (ret := none) (by decide) rfl (Nat.le_of_ble_eq_true rfl) ?_
  intro p ev s m args below meth c A ls S hr hlk G hl
  have hx := S.1
  have hb := S.2.1
  have hown : s.vm.findClass RX3 = some m.cls := S.2.2.2.1
  have hts := S.2.2.2.2
  have hl : lv_has ls 1 [(0, .ref x)] := hl
  have hiX3 : ∀ w ∈ wsX30, w ∈ wsX3_save := by decide +kernel
  have hf10 := hts (.fieldLink RX3 10 "StrikingWork" "now" "LStrikingWork$State;") (by decide +kernel)
  have hf16 := hts (.fieldLink RX3 16 "StrikingWork" "saved" "[LStrikingWork$State;") (by decide +kernel)
  have hf33 := hts (.fieldLink RX3 33 "StrikingWork" "savedCount" "I") (by decide +kernel)
  refine lv_aload_n hx hb dX3_save_0 rfl (lv_at hl 0 rfl) ?_
  refine k_get (v := .int 4) S G 0 rfl rfl hiX3 4 (by decide) hf33 rfl dX3_save_1 ?_
  refine lv_iconst (v := 5) hx hb dX3_save_4 (by decide) ?_
  refine lv_icmp_lt (tgt := 12) hx hb dX3_save_5 (by decide) (fun c_1 => ?_) (fun c_1 => absurd c_1 (by decide))
  refine lv_aload_n hx hb dX3_save_12 rfl (lv_at hl 0 rfl) ?_
  refine k_get (v := .ref sv) S G 0 rfl rfl hiX3 1 (by decide) hf16 rfl dX3_save_13 ?_
  refine lv_aload_n hx hb dX3_save_16 rfl (lv_at hl 0 rfl) ?_
  refine k_get (v := .int 4) S G 0 rfl rfl hiX3 4 (by decide) hf33 rfl dX3_save_17 ?_
  refine k_aald (x := ((sa 4) 0)) S G 10 1 rfl rfl (by unfold vp_in; decide) rfl dX3_save_20 ?_
  refine lv_aload_n hx hb dX3_save_21 rfl (lv_at hl 0 rfl) ?_
  refine k_get (v := .ref (a 0)) S G 0 rfl rfl hiX3 0 (by decide) hf10 rfl dX3_save_22 ?_
  refine k_callV (n := 1) (As := [.ref (a 0)]) (rest := []) (st1 := []) (ws1 := ((x, .inr (3, [.ref (a 0), .ref sv, .ref tl, .ref er, .int 4])) :: (er, .inl (cI, 3, .inl z)) :: stW cI a r e ((tl, .inr (2, [.int n0, .int m0, .int p0, .int w0, .int s0, .int f0])) :: (sv, .inl (cS, 5, .inr (.inr (.inr (.inr (fun i => some (sa i 0))))))) :: stW cI (sa 0) (sr 0) (se 0) (stW cI (sa 1) (sr 1) (se 1) (stW cI (sa 2) (sr 2) (se 2) (stW cI (sa 3) (sr 3) (se 3) (stW cI (sa 4) r e ([])))))))) S G (c_X0_copyFrom l D cI cS (sa 4) (sr 4) (se 4) a r e) gX3_save_X0_copyFrom rfl (by decide +kernel) ⟨⟨rfl, rfl⟩, Nat.le_of_ble_eq_true rfl, Nat.le_of_ble_eq_true rfl⟩ [39, 40, 41, 42, 43, 44, 45, 2, 3, 4, 5, 6, 7, 8] (by decide) rfl [((sa 4) 0), ((sa 4) 1), ((sa 4) 2), ((sa 4) 3), ((sa 4) 4), ((sa 4) 5), ((sa 4) 6), (a 0), (a 1), (a 2), (a 3), (a 4), (a 5), (a 6)] rfl rfl 39 rfl rfl rfl hl.1 rfl (Nat.le_of_ble_eq_true rfl) ⟨Nat.zero_le _, Nat.zero_le _⟩ dX3_save_25 rfl rfl (fun H locs G => ?_)
  refine lv_aload_n hx hb dX3_save_28 rfl (lv_at hl 0 rfl) ?_
  refine lv_dup hx hb dX3_save_29 rfl ?_
  refine k_get (v := .int 4) S G 0 rfl rfl hiX3 4 (by decide) hf33 rfl dX3_save_30 ?_
  refine lv_iconst (v := 1) hx hb dX3_save_33 (by decide) ?_
  refine lv_iadd hx hb dX3_save_34 ?_
  refine lv_lit (v := 5) (by decide) ?_
  refine k_put (ws1 := ((x, .inr (3, [.ref (a 0), .ref sv, .ref tl, .ref er, .int 5])) :: (er, .inl (cI, 3, .inl z)) :: stW cI a r e ((tl, .inr (2, [.int n0, .int m0, .int p0, .int w0, .int s0, .int f0])) :: (sv, .inl (cS, 5, .inr (.inr (.inr (.inr (fun i => some (sa i 0))))))) :: stW cI (sa 0) (sr 0) (se 0) (stW cI (sa 1) (sr 1) (se 1) (stW cI (sa 2) (sr 2) (se 2) (stW cI (sa 3) (sr 3) (se 3) (stW cI (sa 4) r e ([])))))))) S G 0 rfl rfl hiX3 tyX3 tyX3_ok nmX3 4 (by decide) hf33 rfl rfl rfl (Nat.le_of_ble_eq_true rfl) dX3_save_35 rfl (fun H locs G => ?_)
  exact k_vret S G hr hlk dX3_save_38 rfl
set_option maxHeartbeats 4000000 in
set_option maxRecDepth 100000 in
theorem c_X3_save (l : Launch) (D : va_G) (cI cS : ClassId) (x : Nat) (sv : Nat) (tl : Nat) (er : Nat) (sc : Int32) (z : Nat → Int32) (a : Nat → Nat) (r : Nat → Int32) (e : Nat → Nat → Int32) (n0 : Int32) (m0 : Int32) (p0 : Int32) (w0 : Int32) (s0 : Int32) (f0 : Int32) (sa : Nat → Nat → Nat) (sr : Nat → Nat → Int32) (se : Nat → Nat → Nat → Int32) (hsc : scOk sc) : Ct l yX3_save wsX3_save ({ frames := 2, cells := 0, slots := 0, locals := 43 }) D (tyL cI cS) [.ref x] ((x, .inr (3, [.ref (a 0), .ref sv, .ref tl, .ref er, .int sc])) :: (er, .inl (cI, 3, .inl z)) :: stW cI a r e ((tl, .inr (2, [.int n0, .int m0, .int p0, .int w0, .int s0, .int f0])) :: (sv, .inl (cS, 5, .inr (.inr (.inr (.inr (fun i => some (sa i 0))))))) :: svW cI sa sr se ([]))) none ((x, .inr (3, [.ref (a 0), .ref sv, .ref tl, .ref er, .int (sSc sc)])) :: (er, .inl (cI, 3, .inl z)) :: stW cI a r e ((tl, .inr (2, [.int n0, .int m0, .int p0, .int w0, .int s0, .int f0])) :: (sv, .inl (cS, 5, .inr (.inr (.inr (.inr (fun i => some ((sSa sc sa) i 0))))))) :: svW cI (sSa sc sa) (sSr sc sr r) (sSe sc se e) ([]))) := by
  rcases scOk_cases hsc with rfl | rfl | rfl | rfl | rfl | rfl
  · exact c_X3_save_0 l D cI cS x sv tl er z a r e n0 m0 p0 w0 s0 f0 sa sr se
  · exact c_X3_save_1 l D cI cS x sv tl er z a r e n0 m0 p0 w0 s0 f0 sa sr se
  · exact c_X3_save_2 l D cI cS x sv tl er z a r e n0 m0 p0 w0 s0 f0 sa sr se
  · exact c_X3_save_3 l D cI cS x sv tl er z a r e n0 m0 p0 w0 s0 f0 sa sr se
  · exact c_X3_save_4 l D cI cS x sv tl er z a r e n0 m0 p0 w0 s0 f0 sa sr se
  · exact c_X3_save_5 l D cI cS x sv tl er z a r e n0 m0 p0 w0 s0 f0 sa sr se
