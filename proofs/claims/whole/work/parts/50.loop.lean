set_option maxHeartbeats 4000000 in
set_option maxRecDepth 100000 in
/-- the law's loop: at its head, i ints read -/
theorem law_loop {p : Program} {l : Launch} {ev : Env} {s : State} {m : MethodId} {below : List Frame} {meth : Method} {c : Code} {b L : Nat} {xs : Nat → Int32} {D : va_G} {cI cS : ClassId} (C0 : lw_At p s m meth c b L xs) (hL : L ≤ 2048) {x sv tl er : Nat} {a : Nat → Nat} {y nw ad pa eA : Nat} : ∀ (n i : Nat), L < i + 4 * n → i ≤ 2052 → ∀ (H : Heap) (locs : List Loc) (ls : Array Slot), LawSt D cI cS s x sv tl er a y nw ad pa eA (25 * i) H locs → lv_has ls 4 [(3, .int (nI i)), (2, .ref y), (1, .ref x), (0, .ref b)] → W p l ev room_1 s m #[Value.ref b] below meth c H locs 600000 7302250 (lw_Z below #[Value.ref b] s) (F0 m 18 ls []) := by
  obtain ⟨hx, hb, hr, hml, hown, hts, hX, hbl, hlocks, hgv⟩ := id C0
  have hbA : ¬ (fun q : Nat => s.heap.size ≤ q) b := Nat.not_le.mpr hbl
  have key : ∀ i : Nat, i ≤ 2052 → ((nI L - 4) < nI i ↔ L < i + 4) := by
    intro i hi
    rw [Int32.lt_iff_toInt_lt, show (4 : Int32) = nI 4 from rfl, pk_sub_toInt (by omega) (by omega), nI_toInt (by omega)]
    omega
  intro n
  induction n with
  | zero =>
    intro i hin hi2 H locs ls st hl
    obtain ⟨sc, z, r, e, n0, m0, p0, w0, s0, f0, sa, sr, se, sn, hs, f, g, pf, I, G⟩ := st
    refine lv_iload_n hx hb dL_law_18 rfl (lv_at hl 0 rfl) ?_
    refine lv_aload_n hx hb dL_law_19 rfl (lv_at hl 3 rfl) ?_
    refine va_slen hx hb hX hbl hbA G.2.2.2.1 dL_law_20 ?_
    refine lv_iconst (v := 4) hx hb dL_law_21 (by decide) ?_
    refine lv_isub hx hb dL_law_22 ?_
    refine lv_icmp_gt (tgt := 723) hx hb dL_law_23 (by decide) (fun _ => ?_) (fun cc => absurd ((key i hi2).mpr (by omega)) cc)
    refine lv_iconst (v := 1) hx hb dL_law_723 (by decide) ?_
    refine va_forget (fun q hq => G.2.2.2.1.2.2 q hq) ?_
    exact lw_ret hx hb hr hlocks dL_law_724
  | succ n ih =>
    intro i hin hi2 H locs ls st hl
    have hk : ∀ (H : Heap) (locs : List Loc) (ls : Array Slot), i + 4 ≤ L → LawSt D cI cS s x sv tl er a y nw ad pa eA (25 * i + 100) H locs → lv_has ls 4 [(3, .int (nI i)), (2, .ref y), (1, .ref x), (0, .ref b)] → W p l ev room_1 s m #[Value.ref b] below meth c H locs 600000 7302250 (lw_Z below #[Value.ref b] s) (F0 m 717 ls []) := by
      intro H locs ls hle st hl
      refine lv_iinc (v := nI (i + 4)) (lv' := [(3, .int (nI (i + 4))), (2, .ref y), (1, .ref x), (0, .ref b)]) hx hb dL_law_717 hl (k := 0) rfl (nI_add i 4) (by decide) rfl (fun ls hl => ?_)
      refine lv_goto (tgt := 18) hx hb dL_law_720 (by decide) ?_
      exact ih (i + 4) (by omega) (by omega) _ _ ls (by rw [show 25 * (i + 4) = 25 * i + 100 by omega]; exact st) hl
    obtain ⟨sc, z, r, e, n0, m0, p0, w0, s0, f0, sa, sr, se, sn, hs, f, g, pf, I, G⟩ := id st
    refine lv_iload_n hx hb dL_law_18 rfl (lv_at hl 0 rfl) ?_
    refine lv_aload_n hx hb dL_law_19 rfl (lv_at hl 3 rfl) ?_
    refine va_slen hx hb hX hbl hbA G.2.2.2.1 dL_law_20 ?_
    refine lv_iconst (v := 4) hx hb dL_law_21 (by decide) ?_
    refine lv_isub hx hb dL_law_22 ?_
    refine lv_icmp_gt (tgt := 723) hx hb dL_law_23 (by decide) (fun _ => ?_) (fun cc => ?_)
    · refine lv_iconst (v := 1) hx hb dL_law_723 (by decide) ?_
      refine va_forget (fun q hq => G.2.2.2.1.2.2 q hq) ?_
      exact lw_ret hx hb hr hlocks dL_law_724
    · have hle : i + 4 ≤ L := Nat.not_lt.mp (fun h => cc ((key i hi2).mpr h))
      have hk : ∀ (H : Heap) (locs : List Loc) (ls : Array Slot), LawSt D cI cS s x sv tl er a y nw ad pa eA (25 * i + 100) H locs → lv_has ls 4 [(3, .int (nI i)), (2, .ref y), (1, .ref x), (0, .ref b)] → W p l ev room_1 s m #[Value.ref b] below meth c H locs 600000 7302250 (lw_Z below #[Value.ref b] s) (F0 m 717 ls []) := fun H locs ls => hk H locs ls hle
      have hB : 25 * i ≤ 60000 := by omega
      refine lv_aload_n hx hb dL_law_26 rfl (lv_at hl 3 rfl) ?_
      refine lv_iload_n hx hb dL_law_27 rfl (lv_at hl 0 rfl) ?_
      refine va_sld hx hb hX hbl hbA G.2.2.2.1 (vp_in_nI (show i < L by omega) (by omega)) dL_law_28 ?_
      refine lv_bipush (v := 31) hx hb dL_law_29 (by decide) ?_
      refine lv_iand hx hb dL_law_31 ?_
      obtain ⟨j, hj, ej⟩ := pk_andE (xs (nI i).toNatClampNeg) (m := 31) 5 (by decide)
      refine lv_lit (v := nI j) ej ?_
      match j, hj with
      | 0, _ =>
        refine lv_tableIn (off := 112) (tgt := 144) hx hb dL_law_32 (by decide) (by decide) (by decide +kernel) (by decide) ?_
        exact law_c0 C0 hL i (25 * i) hle hB hk _ _ ls st hl
      | 1, _ =>
        refine lv_tableIn (off := 145) (tgt := 177) hx hb dL_law_32 (by decide) (by decide) (by decide +kernel) (by decide) ?_
        exact law_c1 C0 hL i (25 * i) hle hB hk _ _ ls st hl
      | 2, _ =>
        refine lv_tableIn (off := 178) (tgt := 210) hx hb dL_law_32 (by decide) (by decide) (by decide +kernel) (by decide) ?_
        exact law_c2 C0 hL i (25 * i) hle hB hk _ _ ls st hl
      | 3, _ =>
        refine lv_tableIn (off := 221) (tgt := 253) hx hb dL_law_32 (by decide) (by decide) (by decide +kernel) (by decide) ?_
        exact law_c3 C0 hL i (25 * i) hle hB hk _ _ ls st hl
      | 4, _ =>
        refine lv_tableIn (off := 254) (tgt := 286) hx hb dL_law_32 (by decide) (by decide) (by decide +kernel) (by decide) ?_
        exact law_c4 C0 hL i (25 * i) hle hB hk _ _ ls st hl
      | 5, _ =>
        refine lv_tableIn (off := 277) (tgt := 309) hx hb dL_law_32 (by decide) (by decide) (by decide +kernel) (by decide) ?_
        exact law_c5 C0 hL i (25 * i) hle hB hk _ _ ls st hl
      | 6, _ =>
        refine lv_tableIn (off := 300) (tgt := 332) hx hb dL_law_32 (by decide) (by decide) (by decide +kernel) (by decide) ?_
        exact law_c6 C0 hL i (25 * i) hle hB hk _ _ ls st hl
      | 7, _ =>
        refine lv_tableIn (off := 323) (tgt := 355) hx hb dL_law_32 (by decide) (by decide) (by decide +kernel) (by decide) ?_
        exact law_c7 C0 hL i (25 * i) hle hB hk _ _ ls st hl
      | 8, _ =>
        refine lv_tableIn (off := 346) (tgt := 378) hx hb dL_law_32 (by decide) (by decide) (by decide +kernel) (by decide) ?_
        exact law_c8 C0 hL i (25 * i) hle hB hk _ _ ls st hl
      | 9, _ =>
        refine lv_tableIn (off := 369) (tgt := 401) hx hb dL_law_32 (by decide) (by decide) (by decide +kernel) (by decide) ?_
        exact law_c9 C0 hL i (25 * i) hle hB hk _ _ ls st hl
      | 10, _ =>
        refine lv_tableIn (off := 392) (tgt := 424) hx hb dL_law_32 (by decide) (by decide) (by decide +kernel) (by decide) ?_
        exact law_c10 C0 hL i (25 * i) hle hB hk _ _ ls st hl
      | 11, _ =>
        refine lv_tableIn (off := 415) (tgt := 447) hx hb dL_law_32 (by decide) (by decide) (by decide +kernel) (by decide) ?_
        exact law_c11 C0 hL i (25 * i) hle hB hk _ _ ls st hl
      | 12, _ =>
        refine lv_tableIn (off := 438) (tgt := 470) hx hb dL_law_32 (by decide) (by decide) (by decide +kernel) (by decide) ?_
        exact law_c12 C0 hL i (25 * i) hle hB hk _ _ ls st hl
      | 13, _ =>
        refine lv_tableIn (off := 451) (tgt := 483) hx hb dL_law_32 (by decide) (by decide) (by decide +kernel) (by decide) ?_
        exact law_c13 C0 hL i (25 * i) hle hB hk _ _ ls st hl
      | 14, _ =>
        refine lv_tableIn (off := 474) (tgt := 506) hx hb dL_law_32 (by decide) (by decide) (by decide +kernel) (by decide) ?_
        exact law_c14 C0 hL i (25 * i) hle hB hk _ _ ls st hl
      | 15, _ =>
        refine lv_tableIn (off := 497) (tgt := 529) hx hb dL_law_32 (by decide) (by decide) (by decide +kernel) (by decide) ?_
        exact law_c15 C0 hL i (25 * i) hle hB hk _ _ ls st hl
      | 16, _ =>
        refine lv_tableIn (off := 520) (tgt := 552) hx hb dL_law_32 (by decide) (by decide) (by decide +kernel) (by decide) ?_
        exact law_c16 C0 hL i (25 * i) hle hB hk _ _ ls st hl
      | 17, _ =>
        refine lv_tableIn (off := 543) (tgt := 575) hx hb dL_law_32 (by decide) (by decide) (by decide +kernel) (by decide) ?_
        exact law_c17 C0 hL i (25 * i) hle hB hk _ _ ls st hl
      | 18, _ =>
        refine lv_tableIn (off := 566) (tgt := 598) hx hb dL_law_32 (by decide) (by decide) (by decide +kernel) (by decide) ?_
        exact law_c18 C0 hL i (25 * i) hle hB hk _ _ ls st hl
      | 19, _ =>
        refine lv_tableIn (off := 589) (tgt := 621) hx hb dL_law_32 (by decide) (by decide) (by decide +kernel) (by decide) ?_
        exact law_c19 C0 hL i (25 * i) hle hB hk _ _ ls st hl
      | 20, _ =>
        refine lv_tableIn (off := 612) (tgt := 644) hx hb dL_law_32 (by decide) (by decide) (by decide +kernel) (by decide) ?_
        exact law_c20 C0 hL i (25 * i) hle hB hk _ _ ls st hl
      | 21, _ =>
        refine lv_tableIn (off := 635) (tgt := 667) hx hb dL_law_32 (by decide) (by decide) (by decide +kernel) (by decide) ?_
        exact law_c21 C0 hL i (25 * i) hle hB hk _ _ ls st hl
      | 22, _ =>
        refine lv_tableIn (off := 648) (tgt := 680) hx hb dL_law_32 (by decide) (by decide) (by decide +kernel) (by decide) ?_
        exact law_c22 C0 hL i (25 * i) hle hB hk _ _ ls st hl
      | 23, _ =>
        refine lv_tableIn (off := 671) (tgt := 703) hx hb dL_law_32 (by decide) (by decide) (by decide +kernel) (by decide) ?_
        exact law_c23 C0 hL i (25 * i) hle hB hk _ _ ls st hl
      | 24, _ =>
        refine lv_tableOut (tgt := 717) hx hb dL_law_32 (Or.inr (by decide)) (by decide) ?_
        exact hk _ _ ls ⟨sc, z, r, e, n0, m0, p0, w0, s0, f0, sa, sr, se, sn, hs, f, g, pf, Inv.mono I (by omega), G⟩ hl
      | 25, _ =>
        refine lv_tableOut (tgt := 717) hx hb dL_law_32 (Or.inr (by decide)) (by decide) ?_
        exact hk _ _ ls ⟨sc, z, r, e, n0, m0, p0, w0, s0, f0, sa, sr, se, sn, hs, f, g, pf, Inv.mono I (by omega), G⟩ hl
      | 26, _ =>
        refine lv_tableOut (tgt := 717) hx hb dL_law_32 (Or.inr (by decide)) (by decide) ?_
        exact hk _ _ ls ⟨sc, z, r, e, n0, m0, p0, w0, s0, f0, sa, sr, se, sn, hs, f, g, pf, Inv.mono I (by omega), G⟩ hl
      | 27, _ =>
        refine lv_tableOut (tgt := 717) hx hb dL_law_32 (Or.inr (by decide)) (by decide) ?_
        exact hk _ _ ls ⟨sc, z, r, e, n0, m0, p0, w0, s0, f0, sa, sr, se, sn, hs, f, g, pf, Inv.mono I (by omega), G⟩ hl
      | 28, _ =>
        refine lv_tableOut (tgt := 717) hx hb dL_law_32 (Or.inr (by decide)) (by decide) ?_
        exact hk _ _ ls ⟨sc, z, r, e, n0, m0, p0, w0, s0, f0, sa, sr, se, sn, hs, f, g, pf, Inv.mono I (by omega), G⟩ hl
      | 29, _ =>
        refine lv_tableOut (tgt := 717) hx hb dL_law_32 (Or.inr (by decide)) (by decide) ?_
        exact hk _ _ ls ⟨sc, z, r, e, n0, m0, p0, w0, s0, f0, sa, sr, se, sn, hs, f, g, pf, Inv.mono I (by omega), G⟩ hl
      | 30, _ =>
        refine lv_tableOut (tgt := 717) hx hb dL_law_32 (Or.inr (by decide)) (by decide) ?_
        exact hk _ _ ls ⟨sc, z, r, e, n0, m0, p0, w0, s0, f0, sa, sr, se, sn, hs, f, g, pf, Inv.mono I (by omega), G⟩ hl
      | 31, _ =>
        refine lv_tableOut (tgt := 717) hx hb dL_law_32 (Or.inr (by decide)) (by decide) ?_
        exact hk _ _ ls ⟨sc, z, r, e, n0, m0, p0, w0, s0, f0, sa, sr, se, sn, hs, f, g, pf, Inv.mono I (by omega), G⟩ hl
      | k + 32, h => exact absurd h (by omega)
