theorem rel00 : Rel r00 e00 r00 := by
  refine ⟨fun _ _ => rfl, fun w i hw hi => ?_⟩
  have h : ∀ n, 15 ≤ n → r00 n = 0 := by
    intro n hn
    unfold r00
    rw [if_neg (by omega), if_neg (by omega), if_neg (by omega), if_neg (by omega), if_neg (by omega), if_neg (by omega)]
  rw [h (15 + 4 * i + w) (by omega)]
  rfl
theorem good00 : Good 0 r00 := by unfold Good; decide
theorem inv00 (pf : Nat → Int32) : Inv 0 0 r00 e00 (fun _ => r00) (fun _ => e00) 0 r00 pf :=
  ⟨rfl, by unfold scOk; decide, rel00, good00, fun i hi => absurd hi (by rw [show (0 : Int32).toNatClampNeg = 0 from rfl]; omega)⟩
set_option maxHeartbeats 4000000 in
set_option maxRecDepth 100000 in
/-- THE LAW, from its entry -/
theorem whole_start {p : Program} {e : Env} {s : State} {m : MethodId} {below : List Frame} {meth : Method} {c : Code} (l : Launch) (hflags : l.flags = flags0) {b L : Nat} {xs : Nat → Int32} (hL : L ≤ 2048) (C0 : lw_At p s m meth c b L xs) : W p l e room_1 s m #[Value.ref b] below meth c s.heap [] 0 0 (lw_Z below #[Value.ref b] s) (entryFrame m ([Value.ref b] : List Value).toArray 4) := by
  obtain ⟨hx, hb, hr, hml, hown, hts, hX, hbl, hlocks, hgv⟩ := id C0
  have htl := fun w h => hts w (wsL_law_in w h)
  have S : CallFix p m c code 4 s #[Value.ref b] wsL_law RL := ⟨hx, hb, hml, hown, htl⟩
  obtain ⟨c0, iS0, hKn0⟩ := u_known (C := RX0) (T := TX0) (N := 7) (n := 7) hts inX0 (hts (.instantiable RX0 7) (List.mem_of_getElem? (i := 33) (by decide +kernel)))
  obtain ⟨c1, iS1, hKn1⟩ := u_known (C := RX1) (T := TX1) (N := 4) (n := 4) hts inX1 (hts (.instantiable RX1 4) (List.mem_of_getElem? (i := 70) (by decide +kernel)))
  obtain ⟨c2, iS2, hKn2⟩ := u_known (C := RX2) (T := TX2) (N := 6) (n := 6) hts inX2 (hts (.instantiable RX2 6) (List.mem_of_getElem? (i := 39) (by decide +kernel)))
  obtain ⟨c3, iS3, hKn3⟩ := u_known (C := RX3) (T := TX3) (N := 5) (n := 5) hts inX3 (hts (.instantiable RX3 5) (List.mem_of_getElem? (i := 25) (by decide +kernel)))
  obtain ⟨c4, iS4, hKn4⟩ := u_known (C := RX4) (T := TX4) (N := 6) (n := 6) hts inX4 (hts (.instantiable RX4 6) (List.mem_of_getElem? (i := 370) (by decide +kernel)))
  obtain ⟨dC, dI, hKc⟩ : ∃ (dC : Nat → ClassId) (dI : Nat → Nat → Nat), ∀ (k : Nat) (q : vw_C), vwCl[k]? = some q → u_Kn s q.1 q.2.1 q.2.2 (dC k) (dI k) := by
    refine ⟨fun k => if k = 0 then c0 else if k = 1 then c1 else if k = 2 then c2 else if k = 3 then c3 else c4, fun k => if k = 0 then iS0 else if k = 1 then iS1 else if k = 2 then iS2 else if k = 3 then iS3 else iS4, ?_⟩
    intro k q hq
    match k, hq with
    | 0, hq => cases hq; exact hKn0
    | 1, hq => cases hq; exact hKn1
    | 2, hq => cases hq; exact hKn2
    | 3, hq => cases hq; exact hKn3
    | 4, hq => cases hq; exact hKn4
    | k + 5, hq => simp [vwCl] at hq
  obtain ⟨cI, kA, comp, hfI, hkI, hkindI⟩ := Cond.arrayClass_spec (hts (.arrayClass .int) (List.mem_of_getElem? (i := 92) (by decide +kernel)))
  have hAO : va_AO "StrikingWork$State" s := va_AO.of (hts (.arrayOver (.object "StrikingWork$State")) (List.mem_of_getElem? (i := 122) (by decide +kernel)))
  obtain ⟨compS, cS, kS, g1, g2, g3, g4, g5⟩ := Cond.arrayOver_spec hAO
  have hN : NX s := ⟨va_Nw.of rfl (hts (.methodLinkNest RX3 9 yX0_init RX3) (List.mem_of_getElem? (i := 34) (by decide +kernel))), va_Nw.of rfl (hts (.methodLinkNest RX0 25 yX1_init RX3) (List.mem_of_getElem? (i := 71) (by decide +kernel))), hAO⟩
  have hK : va_K (dC, dI) vwCl (tyL cI cS) s := by
    refine ⟨hKc, fun k q h => ?_⟩
    match k, h with
    | 0, h => cases h; exact ⟨fun n z => ⟨fun k h => (by cases h), kA, hkI, comp, hkindI⟩, hfI⟩
    | 1, h => cases h; exact ⟨fun n z => ⟨fun k h => (by cases h), kS, g3, compS, g4⟩, kS, compS, g3, g4, g1, g5⟩
    | k + 2, h => simp [tyL] at h
  have G : Gd (dC, dI) (tyL cI cS) (fun q : Nat => s.heap.size ≤ q) s.heap s [] s.heap [] := ⟨hK, fun k q h => by simp at h, ⟨fun i j p q h => by simp at h, fun k q h => by simp at h⟩, va_S.rf, fun _ h => h⟩
  have hl := lv_entry ([.ref b]) (n := 4) (Nat.le_of_ble_eq_true rfl)
  rw [lg_entry_eq]
  generalize (lg_sl ([.ref b]) ++ List.replicate (4 - (lg_sl ([.ref b])).length) Slot.unset).toArray = ls at hl ⊢
  have hl : lv_has ls 4 [(0, .ref b)] := hl
  refine k_new (ci := 3) (fs := [.null, .null, .null, .null, .int 0]) (C := RX3) (T := TX3) (N := 5) (c1 := 1) (s1 := 5) S G inlX3 tyX3 tyX3_ok (hts (.classLink RL 7 RX3) (List.mem_of_getElem? (i := 24) (by decide +kernel))) (hts (.instantiable RX3 5) (List.mem_of_getElem? (i := 25) (by decide +kernel))) (hts (.initialized RX3) (List.mem_of_getElem? (i := 18) (by decide +kernel))) rfl (fun j hj => by rcases (show j = 0 ∨ j = 1 ∨ j = 2 ∨ j = 3 ∨ j = 4 by omega) with rfl | rfl | rfl | rfl | rfl <;> rfl) rfl rfl (Nat.le_of_ble_eq_true rfl) (Nat.le_of_ble_eq_true rfl) dL_law_0 (fun x H G => ?_)
  have G := Gd.eq (ws1 := [(x, .inr (3, [.null, .null, .null, .null, .int 0]))]) G rfl
  refine lv_dup hx hb dL_law_3 rfl ?_
  refine k_callM (rest := [.ref x]) (c1 := 46) (s1 := 265) [] S G hN (c_X3_init l (dC, dI) cI cS x) gL_law_X3_init rfl (hts (.initialized RX3) (List.mem_of_getElem? (i := 18) (by decide +kernel))) (hts (.methodLink RL 9 yX3_init) (List.mem_of_getElem? (i := 26) (by decide +kernel))) (hts (.instanceMethod yX3_init) (List.mem_of_getElem? (i := 27) (by decide +kernel))) rfl (by decide +kernel) ⟨⟨rfl, rfl⟩, Nat.le_of_ble_eq_true rfl, Nat.le_of_ble_eq_true rfl⟩ rfl hl.1 rfl (Nat.le_of_ble_eq_true rfl) rfl rfl ⟨Nat.le_of_ble_eq_true rfl, Nat.le_of_ble_eq_true rfl⟩ dL_law_4 (fun bb H locs G => ?_)
  refine lv_astore_n (lv' := [(1, .ref x), (0, .ref b)]) hx hb dL_law_7 rfl hl (by decide) rfl (fun ls hl => ?_)
  refine k_new (ci := 4) (fs := [.null, .null, .null, .int 0, .null, .long 0]) (C := RX4) (T := TX4) (N := 6) (c1 := 47) (s1 := 271) S G inlX4 tyX4 tyX4_ok (hts (.classLink RL 10 RX4) (List.mem_of_getElem? (i := 369) (by decide +kernel))) (hts (.instantiable RX4 6) (List.mem_of_getElem? (i := 370) (by decide +kernel))) (hts (.initialized RX4) (List.mem_of_getElem? (i := 22) (by decide +kernel))) rfl (fun j hj => by rcases (show j = 0 ∨ j = 1 ∨ j = 2 ∨ j = 3 ∨ j = 4 ∨ j = 5 by omega) with rfl | rfl | rfl | rfl | rfl | rfl <;> rfl) rfl rfl (Nat.le_of_ble_eq_true rfl) (Nat.le_of_ble_eq_true rfl) dL_law_8 (fun y H G => ?_)
  refine lv_dup hx hb dL_law_11 rfl ?_
  refine k_callM (rest := [.ref y]) (c1 := 51) (s1 := 547) _ S G hN (c_X4_init l (dC, dI) cI cS y) gL_law_X4_init rfl (hts (.initialized RX4) (List.mem_of_getElem? (i := 22) (by decide +kernel))) (hts (.methodLink RL 12 yX4_init) (List.mem_of_getElem? (i := 371) (by decide +kernel))) (hts (.instanceMethod yX4_init) (List.mem_of_getElem? (i := 372) (by decide +kernel))) rfl (by decide +kernel) ⟨⟨rfl, rfl⟩, Nat.le_of_ble_eq_true rfl, Nat.le_of_ble_eq_true rfl⟩ rfl hl.1 rfl (Nat.le_of_ble_eq_true rfl) rfl rfl ⟨Nat.le_of_ble_eq_true rfl, Nat.le_of_ble_eq_true rfl⟩ dL_law_12 (fun b4 H locs G => ?_)
  refine lv_astore_n (lv' := [(2, .ref y), (1, .ref x), (0, .ref b)]) hx hb dL_law_15 rfl hl (by decide) rfl (fun ls hl => ?_)
  refine lv_iconst (v := 0) hx hb dL_law_16 (by decide) ?_
  refine lv_istore_n (lv' := [(3, .int 0), (2, .ref y), (1, .ref x), (0, .ref b)]) hx hb dL_law_17 rfl hl (by decide) rfl (fun ls hl => ?_)
  refine W.widen (k := 600000) (n := 7302250) (Nat.le_of_ble_eq_true rfl) (Nat.le_of_ble_eq_true rfl) ?_
  exact law_loop (x := x) (sv := bb 0) (tl := bb 1) (er := bb 2) (a := fun k => bb (3 + k)) (y := y) (nw := b4 0) (ad := b4 1) (pa := b4 2) (eA := b4 3) C0 hL 1000 0 (by omega) (by omega) _ _ ls ⟨0, fun _ => 0, r00, e00, 0, 1, 1, 2000, 0, 0, fun i k => bb (10 + 7 * i + k), fun _ => r00, fun _ => e00, 0, 0, r00, fun _ => 0, fun _ => 0, inv00 _, Gd.eq G rfl⟩ hl
