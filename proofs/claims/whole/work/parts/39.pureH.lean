/-! ===== pure rows: minutesToMiss ===== -/
theorem hsh_congr {r r' : Nat → Int32} (h1 : r 1 = r' 1) (h2 : r 2 = r' 2) (h3 : r 3 = r' 3) (q : Int32) : s_X0_hushesAt r q = s_X0_hushesAt r' q := by
  unfold s_X0_hushesAt
  rw [h1, h2, h3]
theorem blk_congr {r r' : Nat → Int32} (h1 : r 1 = r' 1) (h2 : r 2 = r' 2) (h3 : r 3 = r' 3) (q : Int32) : s_X0_blocksAt r q = s_X0_blocksAt r' q := by
  unfold s_X0_blocksAt
  rw [h1, hsh_congr h1 h2 h3]
set_option maxRecDepth 100000 in
theorem relq_all : ∀ x, x < 1440 → (s_X2_isReleasedAt 1 (nI x) = if x % 15 = 0 then 1 else 0) := by decide +kernel
theorem tick_form {B : Nat} {f : Nat → Int32} (hG : Good B f) {m : Nat} (hm : m < 1440) (e0 : f 0 = nI m) (hq : (m + 1) % 15 = 0) : ∃ (d1 d0 : Nat) (sl : Int32), (1 ≤ d1 ∧ d1 ≤ 4) ∧ (1 ≤ d0 ∧ d0 ≤ 12) ∧ s_X2_dueAt 1 (nI ((m + 1) % 1440)) = nI d1 ∧ ((m + 1) % 60 = 0 → s_X2_dueAt 0 (nI ((m + 1) % 1440)) = nI d0) ∧
    ((¬ s_X0_blocksAt f (nI ((m + 1) % 1440)) = 0 ∧ (s_X4_tick f).2 = upd f 0 (nI ((m + 1) % 1440))) ∨ (s_X0_blocksAt f (nI ((m + 1) % 1440)) = 0 ∧ (s_X4_tick f).2 = if (m + 1) % 60 = 0 then (s_X4_release_0 (s_X4_release_1 (upd f 0 (nI ((m + 1) % 1440))) (nI d1) sl).2 (nI d0) sl).2 else (s_X4_release_1 (upd f 0 (nI ((m + 1) % 1440))) (nI d1) sl).2)) := by
  have hx : (m + 1) % 1440 < 1440 := Nat.mod_lt _ (by omega)
  have ex : irem (nI m + 1) 1440 = nI ((m + 1) % 1440) := next_min hm
  have hdq := duq_all m hm hq
  have hdh := duh_all m hm
  have e60 : irem (nI ((m + 1) % 1440)) 60 = nI ((m + 1) % 60) := by
    have e2 : irem (nI ((m + 1) % 1440)) 60 = nI ((m + 1) % 1440 % 60) := mod_nI (d := 60) (by omega) (by omega) (by omega)
    rw [e2, show (m + 1) % 1440 % 60 = (m + 1) % 60 by omega]
  have e15 : irem (nI ((m + 1) % 1440)) 15 = 0 := by
    have e2 : irem (nI ((m + 1) % 1440)) 15 = nI ((m + 1) % 1440 % 15) := mod_nI (d := 15) (by omega) (by omega) (by omega)
    rw [e2, show (m + 1) % 1440 % 15 = 0 by omega]
    rfl
  obtain ⟨d1, p1, p2, p3⟩ := dueOk_nat (due_all1 m hm).2
  obtain ⟨d0, p4, p5, p6⟩ := dueOk_nat (due_all0 m hm).2
  generalize nI ((m + 1) % 1440) = X at ex hdq hdh e60 e15 ⊢
  have hH : s_X0_hushesAt f X = s_X4_silentAt (upd f 0 X) X := hush_eq rfl rfl rfl X
  refine ⟨d1, d0, s_X4_silentAt (upd f 0 X) X, ⟨p1, p2⟩, ⟨p4, p5⟩, hdq.trans p3, fun h => (hdh h).trans p6, ?_⟩
  generalize hs : s_X4_silentAt (upd f 0 X) X = sl at hH ⊢
  have c60 : irem X 60 = 0 ↔ (m + 1) % 60 = 0 := by
    rw [e60]
    constructor
    · intro h
      rcases Nat.eq_zero_or_pos ((m + 1) % 60) with z | z
      · exact z
      · exact absurd h (nI_ne0 z (by omega))
    · intro h
      rw [h]
      rfl
  have tk : s_X4_tick f = (if sl = 0 then (if irem X 60 = 0 then (((s_X4_release_1 (upd f 0 X) (nI d1) sl).1 + (s_X4_release_0 (s_X4_release_1 (upd f 0 X) (nI d1) sl).2 (nI d0) sl).1), (s_X4_release_0 (s_X4_release_1 (upd f 0 X) (nI d1) sl).2 (nI d0) sl).2) else ((s_X4_release_1 (upd f 0 X) (nI d1) sl).1, (s_X4_release_1 (upd f 0 X) (nI d1) sl).2)) else (if f 1 = 1 then (0, upd f 0 X) else (if irem X 60 = 0 then (((s_X4_release_1 (upd f 0 X) (nI d1) sl).1 + (s_X4_release_0 (s_X4_release_1 (upd f 0 X) (nI d1) sl).2 (nI d0) sl).1), (s_X4_release_0 (s_X4_release_1 (upd f 0 X) (nI d1) sl).2 (nI d0) sl).2) else ((s_X4_release_1 (upd f 0 X) (nI d1) sl).1, (s_X4_release_1 (upd f 0 X) (nI d1) sl).2)))) := by
    unfold s_X4_tick
    rw [e0, ex, if_pos e15, hs, p3, p6]
  have op : ((if irem X 60 = 0 then (((s_X4_release_1 (upd f 0 X) (nI d1) sl).1 + (s_X4_release_0 (s_X4_release_1 (upd f 0 X) (nI d1) sl).2 (nI d0) sl).1), (s_X4_release_0 (s_X4_release_1 (upd f 0 X) (nI d1) sl).2 (nI d0) sl).2) else ((s_X4_release_1 (upd f 0 X) (nI d1) sl).1, (s_X4_release_1 (upd f 0 X) (nI d1) sl).2)) : Int32 × (Nat → Int32)).2 = if (m + 1) % 60 = 0 then (s_X4_release_0 (s_X4_release_1 (upd f 0 X) (nI d1) sl).2 (nI d0) sl).2 else (s_X4_release_1 (upd f 0 X) (nI d1) sl).2 := by
    by_cases h : (m + 1) % 60 = 0
    · rw [if_pos (c60.mpr h), if_pos h]
    · rw [if_neg (fun z => h (c60.mp z)), if_neg h]
  by_cases hz : sl = 0
  · refine Or.inr ⟨?_, ?_⟩
    · unfold s_X0_blocksAt
      rw [hH, if_pos hz]
      by_cases h1 : f 1 = 1
      · rw [if_pos h1]
      · rw [if_neg h1]
    · rw [tk, if_pos hz]
      exact op
  · by_cases h1 : f 1 = 1
    · refine Or.inl ⟨?_, ?_⟩
      · unfold s_X0_blocksAt
        rw [hH, if_neg hz, if_pos h1]
        decide
      · rw [tk, if_neg hz, if_pos h1]
    · refine Or.inr ⟨?_, ?_⟩
      · unfold s_X0_blocksAt
        rw [if_neg h1]
      · rw [tk, if_neg hz, if_neg h1]
        exact op
theorem upd_ne {f : Nat → Int32} {k j : Nat} {x : Int32} (h : ¬ j = k) : upd f k x j = f j := by
  unfold upd
  rw [if_neg h]
theorem rel0_keep (f : Nat → Int32) (du lf : Int32) {j : Nat} (h13 : j ≤ 13) (hp : ¬ j = 5) (hw : ¬ j = 6) (hs : ¬ j = 7) (hm : ¬ j = 8) : (s_X4_release_0 f du lf).2 j = f j := by
  have st : ∀ bl : Int32, (s_X4_strike_0 f bl lf).2 j = f j := by
    intro bl
    unfold s_X4_strike_0
    by_cases a : f 4 = 1
    · by_cases c : lf = 0
      · rw [if_pos a, if_pos c]
        exact (upd_ne hs).trans ((rec_lo _ _ _ h13).trans ((upd_ne hp).trans (upd_ne hw)))
      · rw [if_pos a, if_neg c]
        exact (upd_ne hs).trans ((rec_lo _ _ _ h13).trans ((upd_ne hp).trans (upd_ne hw)))
    · by_cases c : lf = 0
      · rw [if_neg a, if_pos c]
        exact (upd_ne hs).trans ((rec_lo _ _ _ h13).trans (upd_ne hw))
      · rw [if_neg a, if_neg c]
        exact (upd_ne hs).trans ((rec_lo _ _ _ h13).trans (upd_ne hw))
  unfold s_X4_release_0
  by_cases a : s_X4_blowsOf_0 f du ≤ f 6
  · by_cases c : s_X4_blowsOf_0 f du = 0
    · rw [if_pos a, if_pos c]
    · rw [if_pos a, if_neg c]
      exact st _
  · rw [if_neg a]
    exact upd_ne hm
theorem rel1_keep (f : Nat → Int32) (du lf : Int32) {j : Nat} (h13 : j ≤ 13) (hp : ¬ j = 10) (hw : ¬ j = 11) (hs : ¬ j = 12) (hm : ¬ j = 13) : (s_X4_release_1 f du lf).2 j = f j := by
  have st : ∀ bl : Int32, (s_X4_strike_1 f bl lf).2 j = f j := by
    intro bl
    unfold s_X4_strike_1
    by_cases a : f 9 = 1
    · by_cases c : lf = 0
      · rw [if_pos a, if_pos c]
        exact (upd_ne hs).trans ((rec_lo _ _ _ h13).trans ((upd_ne hp).trans (upd_ne hw)))
      · rw [if_pos a, if_neg c]
        exact (upd_ne hs).trans ((rec_lo _ _ _ h13).trans ((upd_ne hp).trans (upd_ne hw)))
    · by_cases c : lf = 0
      · rw [if_neg a, if_pos c]
        exact (upd_ne hs).trans ((rec_lo _ _ _ h13).trans (upd_ne hw))
      · rw [if_neg a, if_neg c]
        exact (upd_ne hs).trans ((rec_lo _ _ _ h13).trans (upd_ne hw))
  unfold s_X4_release_1
  by_cases a : s_X4_blowsOf_1 f du ≤ f 11
  · by_cases c : s_X4_blowsOf_1 f du = 0
    · rw [if_pos a, if_pos c]
    · rw [if_pos a, if_neg c]
      exact st _
  · rw [if_neg a]
    exact upd_ne hm
theorem relw_0 (r : Nat → Int32) (e : Nat → Nat → Int32) (du lf : Int32) : (s_X3_release_h r e du lf).2.1 5 = (s_X2_releaseWith 0 (r 4) (r 5) (r 6) (r 8) du).2.1 ∧ (s_X3_release_h r e du lf).2.1 6 = (s_X2_releaseWith 0 (r 4) (r 5) (r 6) (r 8) du).2.2.1 ∧ (s_X3_release_h r e du lf).2.1 8 = (s_X2_releaseWith 0 (r 4) (r 5) (r 6) (r 8) du).2.2.2 := by
  unfold s_X3_release_h
  generalize s_X2_releaseWith 0 (r 4) (r 5) (r 6) (r 8) du = u
  by_cases a : u.1 = 0
  · rw [if_pos a]
    exact ⟨rfl, rfl, rfl⟩
  · by_cases c : lf = 0
    · rw [if_neg a, if_pos c]
      exact ⟨rfl, rfl, rfl⟩
    · rw [if_neg a, if_neg c]
      exact ⟨rfl, rfl, rfl⟩
theorem rel0_self {C E : Nat} {f : Nat → Int32} (hG : GoodX C E f) (hC : C ≤ 1000000) {d : Nat} (hd1 : 1 ≤ d) (hd2 : d ≤ 12) (lf : Int32) : (s_X2_releaseWith 0 (f 4) (f 5) (f 6) (f 8) (nI d)).2.1 = (s_X4_release_0 f (nI d) lf).2 5 ∧ (s_X2_releaseWith 0 (f 4) (f 5) (f 6) (f 8) (nI d)).2.2.1 = (s_X4_release_0 f (nI d) lf).2 6 ∧ (s_X2_releaseWith 0 (f 4) (f 5) (f 6) (f 8) (nI d)).2.2.2 = (s_X4_release_0 f (nI d) lf).2 8 := by
  have hR : Rel f (fun w i => f (15 + 4 * i + w)) f := ⟨fun _ _ => rfl, fun _ _ _ _ => rfl⟩
  obtain ⟨-, q2, -⟩ := rel_0 hR hG hC hd1 hd2 lf
  obtain ⟨w1, w2, w3⟩ := relw_0 f (fun w i => f (15 + 4 * i + w)) (nI d) lf
  exact ⟨w1.symm.trans (q2.1 5 (by omega)), w2.symm.trans (q2.1 6 (by omega)), w3.symm.trans (q2.1 8 (by omega))⟩
theorem relw_1 (r : Nat → Int32) (e : Nat → Nat → Int32) (du lf : Int32) : (s_X3_release_q r e du lf).2.1 10 = (s_X2_releaseWith 1 (r 9) (r 10) (r 11) (r 13) du).2.1 ∧ (s_X3_release_q r e du lf).2.1 11 = (s_X2_releaseWith 1 (r 9) (r 10) (r 11) (r 13) du).2.2.1 ∧ (s_X3_release_q r e du lf).2.1 13 = (s_X2_releaseWith 1 (r 9) (r 10) (r 11) (r 13) du).2.2.2 := by
  unfold s_X3_release_q
  generalize s_X2_releaseWith 1 (r 9) (r 10) (r 11) (r 13) du = u
  by_cases a : u.1 = 0
  · rw [if_pos a]
    exact ⟨rfl, rfl, rfl⟩
  · by_cases c : lf = 0
    · rw [if_neg a, if_pos c]
      exact ⟨rfl, rfl, rfl⟩
    · rw [if_neg a, if_neg c]
      exact ⟨rfl, rfl, rfl⟩
theorem rel1_self {C E : Nat} {f : Nat → Int32} (hG : GoodX C E f) (hC : E ≤ 1000000) {d : Nat} (hd1 : 1 ≤ d) (hd2 : d ≤ 4) (lf : Int32) : (s_X2_releaseWith 1 (f 9) (f 10) (f 11) (f 13) (nI d)).2.1 = (s_X4_release_1 f (nI d) lf).2 10 ∧ (s_X2_releaseWith 1 (f 9) (f 10) (f 11) (f 13) (nI d)).2.2.1 = (s_X4_release_1 f (nI d) lf).2 11 ∧ (s_X2_releaseWith 1 (f 9) (f 10) (f 11) (f 13) (nI d)).2.2.2 = (s_X4_release_1 f (nI d) lf).2 13 := by
  have hR : Rel f (fun w i => f (15 + 4 * i + w)) f := ⟨fun _ _ => rfl, fun _ _ _ _ => rfl⟩
  obtain ⟨-, q2, -⟩ := rel_1 hR hG hC hd1 hd2 lf
  obtain ⟨w1, w2, w3⟩ := relw_1 f (fun w i => f (15 + 4 * i + w)) (nI d) lf
  exact ⟨w1.symm.trans (q2.1 10 (by omega)), w2.symm.trans (q2.1 11 (by omega)), w3.symm.trans (q2.1 13 (by omega))⟩
theorem tick_proj0 {B : Nat} {f : Nat → Int32} (hG : Good B f) (hB : B ≤ 900000) {m : Nat} (hm : m < 1440) (e0 : f 0 = nI m) (hq : (m + 1) % 15 = 0) : mtmS 0 (f 4) f (nI ((m + 1) % 1440)) (f 5) (f 6) (f 8) = ((s_X4_tick f).2 5, (s_X4_tick f).2 6, (s_X4_tick f).2 8) ∧ (s_X4_tick f).2 1 = f 1 ∧ (s_X4_tick f).2 2 = f 2 ∧ (s_X4_tick f).2 3 = f 3 ∧ (s_X4_tick f).2 4 = f 4 := by
  obtain ⟨d1, d0, sl, hd1, hd0, -, hdh, ht⟩ := tick_form hG hm e0 hq
  have hx : (m + 1) % 1440 < 1440 := Nat.mod_lt _ (by omega)
  have hrl := rel_all ((m + 1) % 1440) hx
  have hGX : GoodX B B (upd f 0 (nI ((m + 1) % 1440))) := good_min hG hx
  have hR : Rel (upd f 0 (nI ((m + 1) % 1440))) (fun w i => upd f 0 (nI ((m + 1) % 1440)) (15 + 4 * i + w)) (upd f 0 (nI ((m + 1) % 1440))) := ⟨fun _ _ => rfl, fun _ _ _ _ => rfl⟩
  obtain ⟨-, -, g1, -⟩ := rel_1 hR hGX (by omega) hd1.1 hd1.2 sl
  have k1 : ∀ j, j ≤ 9 → (s_X4_release_1 (upd f 0 (nI ((m + 1) % 1440))) (nI d1) sl).2 j = upd f 0 (nI ((m + 1) % 1440)) j := fun j hj => rel1_keep _ _ _ (by omega) (by omega) (by omega) (by omega) (by omega)
  generalize hv : (s_X4_release_1 (upd f 0 (nI ((m + 1) % 1440))) (nI d1) sl).2 = v at ht g1 k1
  have v1 : v 1 = f 1 := k1 1 (by omega)
  have v2 : v 2 = f 2 := k1 2 (by omega)
  have v3 : v 3 = f 3 := k1 3 (by omega)
  have v4 : v 4 = f 4 := k1 4 (by omega)
  have v5 : v 5 = f 5 := k1 5 (by omega)
  have v6 : v 6 = f 6 := k1 6 (by omega)
  have v8 : v 8 = f 8 := k1 8 (by omega)
  unfold mtmS
  rw [hrl]
  by_cases h60 : (m + 1) % 60 = 0
  · rw [if_pos (show (m + 1) % 1440 % 60 = 0 by omega), if_neg (by decide)]
    rcases ht with ⟨hb, ht⟩ | ⟨hb, ht⟩
    · rw [if_neg hb, ht]
      exact ⟨rfl, rfl, rfl, rfl, rfl⟩
    · rw [if_pos hb, ht, if_pos h60, hdh h60]
      obtain ⟨s1, s2, s3⟩ := rel0_self g1 (by omega) hd0.1 hd0.2 sl
      rw [v4, v5, v6, v8] at s1 s2 s3
      rw [s1, s2, s3]
      exact ⟨rfl, (rel0_keep v _ _ (by omega) (by omega) (by omega) (by omega) (by omega)).trans v1, (rel0_keep v _ _ (by omega) (by omega) (by omega) (by omega) (by omega)).trans v2, (rel0_keep v _ _ (by omega) (by omega) (by omega) (by omega) (by omega)).trans v3, (rel0_keep v _ _ (by omega) (by omega) (by omega) (by omega) (by omega)).trans v4⟩
  · rw [if_neg (show ¬ (m + 1) % 1440 % 60 = 0 by omega), if_pos rfl]
    rcases ht with ⟨hb, ht⟩ | ⟨hb, ht⟩
    · rw [ht]
      exact ⟨rfl, rfl, rfl, rfl, rfl⟩
    · rw [ht, if_neg h60, v5, v6, v8]
      exact ⟨rfl, v1, v2, v3, v4⟩
theorem tick_proj1 {B : Nat} {f : Nat → Int32} (hG : Good B f) (hB : B ≤ 900000) {m : Nat} (hm : m < 1440) (e0 : f 0 = nI m) (hq : (m + 1) % 15 = 0) : mtmS 1 (f 9) f (nI ((m + 1) % 1440)) (f 10) (f 11) (f 13) = ((s_X4_tick f).2 10, (s_X4_tick f).2 11, (s_X4_tick f).2 13) ∧ (s_X4_tick f).2 1 = f 1 ∧ (s_X4_tick f).2 2 = f 2 ∧ (s_X4_tick f).2 3 = f 3 ∧ (s_X4_tick f).2 9 = f 9 := by
  obtain ⟨d1, d0, sl, hd1, hd0, hdq, -, ht⟩ := tick_form hG hm e0 hq
  have hx : (m + 1) % 1440 < 1440 := Nat.mod_lt _ (by omega)
  have hrl := relq_all ((m + 1) % 1440) hx
  have hGX : GoodX B B (upd f 0 (nI ((m + 1) % 1440))) := good_min hG hx
  obtain ⟨s1, s2, s3⟩ := rel1_self hGX (by omega) hd1.1 hd1.2 sl
  have k1 : ∀ j, j ≤ 9 → (s_X4_release_1 (upd f 0 (nI ((m + 1) % 1440))) (nI d1) sl).2 j = upd f 0 (nI ((m + 1) % 1440)) j := fun j hj => rel1_keep _ _ _ (by omega) (by omega) (by omega) (by omega) (by omega)
  have t1 : (s_X2_releaseWith 1 (f 9) (f 10) (f 11) (f 13) (nI d1)).2.1 = (s_X4_release_1 (upd f 0 (nI ((m + 1) % 1440))) (nI d1) sl).2 10 := s1
  have t2 : (s_X2_releaseWith 1 (f 9) (f 10) (f 11) (f 13) (nI d1)).2.2.1 = (s_X4_release_1 (upd f 0 (nI ((m + 1) % 1440))) (nI d1) sl).2 11 := s2
  have t3 : (s_X2_releaseWith 1 (f 9) (f 10) (f 11) (f 13) (nI d1)).2.2.2 = (s_X4_release_1 (upd f 0 (nI ((m + 1) % 1440))) (nI d1) sl).2 13 := s3
  generalize hv : (s_X4_release_1 (upd f 0 (nI ((m + 1) % 1440))) (nI d1) sl).2 = v at ht k1 t1 t2 t3
  have v1 : v 1 = f 1 := k1 1 (by omega)
  have v2 : v 2 = f 2 := k1 2 (by omega)
  have v3 : v 3 = f 3 := k1 3 (by omega)
  have v9 : v 9 = f 9 := k1 9 (by omega)
  unfold mtmS
  rw [hrl, if_pos (show (m + 1) % 1440 % 15 = 0 by omega), if_neg (by decide), hdq, t1, t2, t3]
  rcases ht with ⟨hb, ht⟩ | ⟨hb, ht⟩
  · rw [if_neg hb, ht]
    exact ⟨rfl, rfl, rfl, rfl, rfl⟩
  · rw [if_pos hb, ht]
    by_cases h60 : (m + 1) % 60 = 0
    · rw [if_pos h60, rel0_keep v _ _ (by omega) (by omega) (by omega) (by omega) (by omega), rel0_keep v _ _ (by omega) (by omega) (by omega) (by omega) (by omega), rel0_keep v _ _ (by omega) (by omega) (by omega) (by omega) (by omega)]
      exact ⟨rfl, (rel0_keep v _ _ (by omega) (by omega) (by omega) (by omega) (by omega)).trans v1, (rel0_keep v _ _ (by omega) (by omega) (by omega) (by omega) (by omega)).trans v2, (rel0_keep v _ _ (by omega) (by omega) (by omega) (by omega) (by omega)).trans v3, (rel0_keep v _ _ (by omega) (by omega) (by omega) (by omega) (by omega)).trans v9⟩
    · rw [if_neg h60]
      exact ⟨rfl, v1, v2, v3, v9⟩
theorem ms_cases (nn mm : Int32) (r : Nat → Int32) (q pp wt ms : Int32) : (mtmS nn mm r q pp wt ms).2.2 = ms ∨ (mtmS nn mm r q pp wt ms).2.2 = ms + 1 := by
  unfold mtmS
  by_cases a : s_X2_isReleasedAt nn q = 0
  · rw [if_pos a]; exact Or.inl rfl
  · rw [if_neg a]
    by_cases b : s_X0_blocksAt r q = 0
    · rw [if_pos b]
      unfold s_X2_releaseWith
      by_cases c : mm = 0
      · rw [if_pos c]; exact Or.inl rfl
      · rw [if_neg c]
        by_cases d : s_X2_canStrike mm pp wt (s_X2_dueAt nn q) = 0
        · rw [if_pos d]; exact Or.inr rfl
        · rw [if_neg d]
          by_cases g : mm = 1
          · rw [if_pos g]; exact Or.inl rfl
          · rw [if_neg g]; exact Or.inl rfl
    · rw [if_neg b]; exact Or.inl rfl
theorem mtmS_congr {nn mm : Int32} {r r' : Nat → Int32} (h1 : r 1 = r' 1) (h2 : r 2 = r' 2) (h3 : r 3 = r' 3) (q pp wt ms : Int32) : mtmS nn mm r q pp wt ms = mtmS nn mm r' q pp wt ms := by
  unfold mtmS
  rw [blk_congr h1 h2 h3]
theorem mm_off (pl : Nat) (hpl : ¬ pl = 0) (g : Nat → Int32) : ∀ (a N kk m : Nat) (f : Nat → Int32), m < 1440 → f 0 = nI m → (∀ t, 1 ≤ t → t ≤ a → ¬ (m + t) % 15 = 0) → kk + a ≤ 20001 → f pl = g pl → mmM pl g (a + N) kk f = mmM pl g N (kk + a) (upd f 0 (nI ((m + a) % 1440))) := by
  intro a
  induction a with
  | zero =>
    intro N kk m f hm e h hk hp
    rw [show (m + 0) % 1440 = m by omega, upd_self e, Nat.zero_add, Nat.add_zero]
  | succ a ih =>
    intro N kk m f hm e h hk hp
    rw [show a + 1 + N = (a + N) + 1 by omega, mmM, if_neg (show ¬ 20000 < kk by omega), tick_off hm e (h 1 (by omega) (by omega))]
    have hle : upd f 0 (nI ((m + 1) % 1440)) pl ≤ g pl := by
      rw [upd_ne hpl, hp]
      exact Int32.le_refl _
    rw [if_pos hle, ih N (kk + 1) ((m + 1) % 1440) (upd f 0 (nI ((m + 1) % 1440))) (Nat.mod_lt _ (by omega)) rfl (fun t h1 h2 => by have := h (t + 1) (by omega) (by omega); omega) (by omega) (by rw [upd_ne hpl]; exact hp), upd_upd, show ((m + 1) % 1440 + a) % 1440 = (m + (a + 1)) % 1440 by omega, show kk + 1 + a = kk + (a + 1) by omega]
theorem mtm_end0 {st : Nat} (hst : st < 1440) {kq c B : Nat} {f g : Nat → Int32} (hG : Good B f) (e0 : f 0 = nI ((st + c) % 1440)) (hoff : ∀ t, c < t → t < kq → ¬ (st + t) % 15 = 0) (hc : c ≤ 20000) (hlt : 20000 < kq) (hg : f 8 = g 8) : (mmM 8 g (20001 - c) (c + 1) f).1 = -1 := by
  rw [show 20001 - c = (20000 - c) + 1 by omega, mm_off 8 (by omega) g (20000 - c) 1 (c + 1) ((st + c) % 1440) f (Nat.mod_lt _ (by omega)) e0 (fun t h1 h2 => by have := hoff (c + t) (by omega) (by omega); omega) (by omega) hg, mmM, if_pos (show 20000 < c + 1 + (20000 - c) by omega)]
theorem mtm_eq0 {st : Nat} (hst : st < 1440) {r g : Nat → Int32} {mm mb : Int32} (er : r 0 = nI st) : ∀ (n kq c B : Nat) (f : Nat → Int32), Good B f → B + n ≤ 800000 → f 0 = nI ((st + c) % 1440) → c < kq → (∀ t, c < t → t < kq → ¬ (st + t) % 15 = 0) → (st + kq) % 15 = 0 → kq ≤ 20100 → c ≤ 20000 → 20000 < kq + 15 * n → f 1 = r 1 → f 2 = r 2 → f 3 = r 3 → f 4 = mm → f 8 = mb → g 8 = mb →
    (mtmL 0 mm r mb n kq (f 5) (f 6) (f 8)).1 = (mmM 8 g (20001 - c) (c + 1) f).1 := by
  intro n
  induction n with
  | zero =>
    intro kq c B f hG hB e0 hck hoff hk15 hk2 hc hf h1 h2 h3 hm hb hg
    rw [mtm_end0 hst hG e0 hoff hc (by omega) (hb.trans hg.symm), mtmL]
  | succ n ih =>
    intro kq c B f hG hB e0 hck hoff hk15 hk2 hc hf h1 h2 h3 hm hb hg
    rcases Nat.lt_or_ge 20000 kq with hlt | hge
    · rw [mtm_end0 hst hG e0 hoff hc hlt (hb.trans hg.symm), mtmL, if_pos hlt]
    · have ek : irem (r 0 + nI kq) 1440 = nI ((st + kq) % 1440) := by
        rw [er, nI_add]
        exact mod_nI (d := 1440) (by omega) (by omega) (by omega)
      have hx : (st + kq - 1) % 1440 < 1440 := Nat.mod_lt _ (by omega)
      have hG2 := good_min hG hx
      have hp := tick_proj0 hG2 (by omega) hx rfl (show ((st + kq - 1) % 1440 + 1) % 15 = 0 by omega)
      have hR : Rel (upd f 0 (nI ((st + kq - 1) % 1440))) (fun w i => upd f 0 (nI ((st + kq - 1) % 1440)) (15 + 4 * i + w)) (upd f 0 (nI ((st + kq - 1) % 1440))) := ⟨fun _ _ => rfl, fun _ _ _ _ => rfl⟩
      obtain ⟨-, -, q3, q4⟩ := quarter_eq hR hG2 (by omega) hx rfl (show ((st + kq - 1) % 1440 + 1) % 15 = 0 by omega)
      rw [show ((st + kq - 1) % 1440 + 1) % 1440 = (st + kq) % 1440 by omega] at hp q4
      obtain ⟨p1, p2, p3, p4, p5⟩ := hp
      have eS : mtmS 0 mm r (nI ((st + kq) % 1440)) (f 5) (f 6) (f 8) = ((s_X4_tick (upd f 0 (nI ((st + kq - 1) % 1440)))).2 5, (s_X4_tick (upd f 0 (nI ((st + kq - 1) % 1440)))).2 6, (s_X4_tick (upd f 0 (nI ((st + kq - 1) % 1440)))).2 8) := by
        rw [← p1, ← hm]
        exact mtmS_congr h1.symm h2.symm h3.symm _ _ _ _
      have hcs := ms_cases 0 mm r (nI ((st + kq) % 1440)) (f 5) (f 6) (f 8)
      have e1 : mmM 8 g (20001 - c) (c + 1) f = mmM 8 g ((20001 - kq) + 1) kq (upd f 0 (nI ((st + kq - 1) % 1440))) := by
        rw [show 20001 - c = (kq - 1 - c) + ((20001 - kq) + 1) by omega, mm_off 8 (by omega) g (kq - 1 - c) ((20001 - kq) + 1) (c + 1) ((st + c) % 1440) f (Nat.mod_lt _ (by omega)) e0 (fun t h1 h2 => by have := hoff (c + t) (by omega) (by omega); omega) (by omega) (hb.trans hg.symm), show ((st + c) % 1440 + (kq - 1 - c)) % 1440 = (st + kq - 1) % 1440 by omega, show c + 1 + (kq - 1 - c) = kq by omega]
      rw [e1, mmM, if_neg (Nat.not_lt.mpr hge), mtmL, if_neg (Nat.not_lt.mpr hge), ek, eS]
      rw [eS] at hcs
      generalize s_X4_tick (upd f 0 (nI ((st + kq - 1) % 1440))) = tk at *
      have hcs : tk.2 8 = f 8 ∨ tk.2 8 = f 8 + 1 := hcs
      by_cases hS : tk.2 8 = mb
      · have hle : tk.2 8 ≤ g 8 := by rw [hS, hg]; exact Int32.le_refl _
        rw [if_pos hle, if_pos hS]
        exact ih (kq + 15) kq (B + 1) tk.2 q3 (by omega) q4 (by omega) (fun t a1 a2 => by omega) (by omega) (by omega) hge (by omega) (p2.trans h1) (p3.trans h2) (p4.trans h3) (p5.trans hm) hS hg
      · have h8 : tk.2 8 = f 8 + 1 := by
          rcases hcs with h | h
          · exact absurd (h.trans hb) hS
          · exact h
        have hle : ¬ tk.2 8 ≤ g 8 := by
          rw [h8, hg, ← hb, Int32.le_iff_toInt_le]
          have g1 := hG.2.2.2.2.2.1.1
          have g2 := hG.2.2.2.2.2.1.2
          rw [pb_add (by rw [show (1 : Int32).toInt = 1 from rfl]; omega) (by rw [show (1 : Int32).toInt = 1 from rfl]; omega), show (1 : Int32).toInt = 1 from rfl]
          omega
        rw [if_neg hle, if_neg hS]
theorem mtm_end1 {st : Nat} (hst : st < 1440) {kq c B : Nat} {f g : Nat → Int32} (hG : Good B f) (e0 : f 0 = nI ((st + c) % 1440)) (hoff : ∀ t, c < t → t < kq → ¬ (st + t) % 15 = 0) (hc : c ≤ 20000) (hlt : 20000 < kq) (hg : f 13 = g 13) : (mmM 13 g (20001 - c) (c + 1) f).1 = -1 := by
  rw [show 20001 - c = (20000 - c) + 1 by omega, mm_off 13 (by omega) g (20000 - c) 1 (c + 1) ((st + c) % 1440) f (Nat.mod_lt _ (by omega)) e0 (fun t h1 h2 => by have := hoff (c + t) (by omega) (by omega); omega) (by omega) hg, mmM, if_pos (show 20000 < c + 1 + (20000 - c) by omega)]
theorem mtm_eq1 {st : Nat} (hst : st < 1440) {r g : Nat → Int32} {mm mb : Int32} (er : r 0 = nI st) : ∀ (n kq c B : Nat) (f : Nat → Int32), Good B f → B + n ≤ 800000 → f 0 = nI ((st + c) % 1440) → c < kq → (∀ t, c < t → t < kq → ¬ (st + t) % 15 = 0) → (st + kq) % 15 = 0 → kq ≤ 20100 → c ≤ 20000 → 20000 < kq + 15 * n → f 1 = r 1 → f 2 = r 2 → f 3 = r 3 → f 9 = mm → f 13 = mb → g 13 = mb →
    (mtmL 1 mm r mb n kq (f 10) (f 11) (f 13)).1 = (mmM 13 g (20001 - c) (c + 1) f).1 := by
  intro n
  induction n with
  | zero =>
    intro kq c B f hG hB e0 hck hoff hk15 hk2 hc hf h1 h2 h3 hm hb hg
    rw [mtm_end1 hst hG e0 hoff hc (by omega) (hb.trans hg.symm), mtmL]
  | succ n ih =>
    intro kq c B f hG hB e0 hck hoff hk15 hk2 hc hf h1 h2 h3 hm hb hg
    rcases Nat.lt_or_ge 20000 kq with hlt | hge
    · rw [mtm_end1 hst hG e0 hoff hc hlt (hb.trans hg.symm), mtmL, if_pos hlt]
    · have ek : irem (r 0 + nI kq) 1440 = nI ((st + kq) % 1440) := by
        rw [er, nI_add]
        exact mod_nI (d := 1440) (by omega) (by omega) (by omega)
      have hx : (st + kq - 1) % 1440 < 1440 := Nat.mod_lt _ (by omega)
      have hG2 := good_min hG hx
      have hp := tick_proj1 hG2 (by omega) hx rfl (show ((st + kq - 1) % 1440 + 1) % 15 = 0 by omega)
      have hR : Rel (upd f 0 (nI ((st + kq - 1) % 1440))) (fun w i => upd f 0 (nI ((st + kq - 1) % 1440)) (15 + 4 * i + w)) (upd f 0 (nI ((st + kq - 1) % 1440))) := ⟨fun _ _ => rfl, fun _ _ _ _ => rfl⟩
      obtain ⟨-, -, q3, q4⟩ := quarter_eq hR hG2 (by omega) hx rfl (show ((st + kq - 1) % 1440 + 1) % 15 = 0 by omega)
      rw [show ((st + kq - 1) % 1440 + 1) % 1440 = (st + kq) % 1440 by omega] at hp q4
      obtain ⟨p1, p2, p3, p4, p5⟩ := hp
      have eS : mtmS 1 mm r (nI ((st + kq) % 1440)) (f 10) (f 11) (f 13) = ((s_X4_tick (upd f 0 (nI ((st + kq - 1) % 1440)))).2 10, (s_X4_tick (upd f 0 (nI ((st + kq - 1) % 1440)))).2 11, (s_X4_tick (upd f 0 (nI ((st + kq - 1) % 1440)))).2 13) := by
        rw [← p1, ← hm]
        exact mtmS_congr h1.symm h2.symm h3.symm _ _ _ _
      have hcs := ms_cases 1 mm r (nI ((st + kq) % 1440)) (f 10) (f 11) (f 13)
      have e1 : mmM 13 g (20001 - c) (c + 1) f = mmM 13 g ((20001 - kq) + 1) kq (upd f 0 (nI ((st + kq - 1) % 1440))) := by
        rw [show 20001 - c = (kq - 1 - c) + ((20001 - kq) + 1) by omega, mm_off 13 (by omega) g (kq - 1 - c) ((20001 - kq) + 1) (c + 1) ((st + c) % 1440) f (Nat.mod_lt _ (by omega)) e0 (fun t h1 h2 => by have := hoff (c + t) (by omega) (by omega); omega) (by omega) (hb.trans hg.symm), show ((st + c) % 1440 + (kq - 1 - c)) % 1440 = (st + kq - 1) % 1440 by omega, show c + 1 + (kq - 1 - c) = kq by omega]
      rw [e1, mmM, if_neg (Nat.not_lt.mpr hge), mtmL, if_neg (Nat.not_lt.mpr hge), ek, eS]
      rw [eS] at hcs
      generalize s_X4_tick (upd f 0 (nI ((st + kq - 1) % 1440))) = tk at *
      have hcs : tk.2 13 = f 13 ∨ tk.2 13 = f 13 + 1 := hcs
      by_cases hS : tk.2 13 = mb
      · have hle : tk.2 13 ≤ g 13 := by rw [hS, hg]; exact Int32.le_refl _
        rw [if_pos hle, if_pos hS]
        exact ih (kq + 15) kq (B + 1) tk.2 q3 (by omega) q4 (by omega) (fun t a1 a2 => by omega) (by omega) (by omega) hge (by omega) (p2.trans h1) (p3.trans h2) (p4.trans h3) (p5.trans hm) hS hg
      · have h8 : tk.2 13 = f 13 + 1 := by
          rcases hcs with h | h
          · exact absurd (h.trans hb) hS
          · exact h
        have hle : ¬ tk.2 13 ≤ g 13 := by
          rw [h8, hg, ← hb, Int32.le_iff_toInt_le]
          have g1 := hG.2.2.2.2.2.2.1.1
          have g2 := hG.2.2.2.2.2.2.1.2
          rw [pb_add (by rw [show (1 : Int32).toInt = 1 from rfl]; omega) (by rw [show (1 : Int32).toInt = 1 from rfl]; omega), show (1 : Int32).toInt = 1 from rfl]
          omega
        rw [if_neg hle, if_neg hS]
section PO
variable {B : Nat} {sc : Int32} {r : Nat → Int32} {e : Nat → Nat → Int32} {sr : Nat → Nat → Int32} {se : Nat → Nat → Nat → Int32} {sn : Int32} {f pf : Nat → Int32}
theorem pq_minutesToMiss (I : Inv B sc r e sr se sn f pf) (z : Nat → Int32) (tn : Int32) (g : Nat → Int32) (n0 m0 p0 w0 s0 f0 : Int32) (hB : B ≤ 60000) : (s_X3_minutesToMiss z r n0 m0 p0 w0 s0 f0 tn).1 = (s_X4_minutesToMiss f g z tn).1 ∧ (s_X3_minutesToMiss z r n0 m0 p0 w0 s0 f0 tn).2.1 = (s_X4_minutesToMiss f g z tn).2.2 := by
  obtain ⟨m, hm, em⟩ := I.2.2.2.1.min
  have R := I.2.2.1
  have er : r 0 = nI m := (R.1 0 (by omega)).trans em
  have a0 := mtm_eq0 (g := f) (mm := r 4) (mb := r 8) hm er 1400 (15 - m % 15) 0 B f I.2.2.2.1 (by omega) (by rw [em, show (m + 0) % 1440 = m by omega]) (by omega) (fun t h1 h2 => by omega) (by omega) (by omega) (by omega) (by omega) (R.1 1 (by omega)).symm (R.1 2 (by omega)).symm (R.1 3 (by omega)).symm (R.1 4 (by omega)).symm (R.1 8 (by omega)).symm (R.1 8 (by omega)).symm
  have a1 := mtm_eq1 (g := f) (mm := r 9) (mb := r 13) hm er 1400 (15 - m % 15) 0 B f I.2.2.2.1 (by omega) (by rw [em, show (m + 0) % 1440 = m by omega]) (by omega) (fun t h1 h2 => by omega) (by omega) (by omega) (by omega) (by omega) (R.1 1 (by omega)).symm (R.1 2 (by omega)).symm (R.1 3 (by omega)).symm (R.1 9 (by omega)).symm (R.1 13 (by omega)).symm (R.1 13 (by omega)).symm
  rw [← R.1 5 (by omega), ← R.1 6 (by omega), ← R.1 8 (by omega), Nat.sub_zero, Nat.zero_add] at a0
  rw [← R.1 10 (by omega), ← R.1 11 (by omega), ← R.1 13 (by omega), Nat.sub_zero, Nat.zero_add] at a1
  rw [← k0f_eq hm, ← er] at a0 a1
  by_cases t0 : tn = 0
  · simp only [s_X3_minutesToMiss, s_X4_minutesToMiss, if_pos t0]
    exact ⟨a0, trivial⟩
  · by_cases t1 : tn = 1
    · simp only [s_X3_minutesToMiss, s_X4_minutesToMiss, if_neg t0, if_pos t1]
      exact ⟨a1, trivial⟩
    · simp only [s_X3_minutesToMiss, s_X4_minutesToMiss, if_neg t0, if_neg t1]
      exact ⟨trivial, trivial⟩
end PO
