/-! ===== pure rows: a minute, a quarter, a run ===== -/
theorem mod_nI {a d : Nat} (ha : a < 100000) (h0 : 0 < d) (hd : d < 100000) : irem (nI a) (nI d) = nI (a % d) := pk_rem (by omega) h0 (by omega)
theorem next_min {m : Nat} (hm : m < 1440) : irem (nI m + 1) 1440 = nI ((m + 1) % 1440) := by
  rw [nI_1]
  exact mod_nI (d := 1440) (by omega) (by omega) (by omega)
theorem upd_self {f : Nat → Int32} {k : Nat} {x : Int32} (h : f k = x) : upd f k x = f := by
  funext j
  unfold upd
  by_cases hj : j = k
  · rw [if_pos hj, hj, h]
  · rw [if_neg hj]
theorem upd_upd (f : Nat → Int32) (k : Nat) (x y : Int32) : upd (upd f k x) k y = upd f k y := by
  funext j
  unfold upd
  by_cases hj : j = k
  · rw [if_pos hj, if_pos hj]
  · rw [if_neg hj, if_neg hj, if_neg hj]
/-- a minute that is no quarter -/
theorem tick_off {f : Nat → Int32} {m : Nat} (hm : m < 1440) (e : f 0 = nI m) (hq : ¬ (m + 1) % 15 = 0) : s_X4_tick f = (0, upd f 0 (nI ((m + 1) % 1440))) := by
  unfold s_X4_tick
  rw [e, next_min hm]
  have h : ¬ irem (nI ((m + 1) % 1440)) 15 = 0 := by
    have e2 : irem (nI ((m + 1) % 1440)) 15 = nI ((m + 1) % 1440 % 15) := mod_nI (d := 15) (by omega) (by omega) (by omega)
    rw [e2]
    exact nI_ne0 (by omega) (by omega)
  rw [if_neg h]
set_option maxRecDepth 100000 in
theorem duq_all : ∀ m, m < 1440 → (m + 1) % 15 = 0 → s_X2_dueAt 1 (nI ((m + 1) % 1440)) = s_X4_dueAfter_1 (nI m) := by decide +kernel
set_option maxRecDepth 100000 in
theorem duh_all : ∀ m, m < 1440 → (m + 1) % 60 = 0 → s_X2_dueAt 0 (nI ((m + 1) % 1440)) = s_X4_dueAfter_0 (nI m) := by decide +kernel
set_option maxRecDepth 100000 in
theorem rel_all : ∀ x, x < 1440 → (s_X2_isReleasedAt 0 (nI x) = if x % 60 = 0 then 1 else 0) := by decide +kernel
/-- a quarter: the class's strikes, the model's minute -/
theorem quarter_eq {B : Nat} {r f : Nat → Int32} {e : Nat → Nat → Int32} (hR : Rel r e f) (hG : Good B f) (hB : B ≤ 900000) {m : Nat} (hm : m < 1440) (e0 : f 0 = nI m) (hq : (m + 1) % 15 = 0) :
    (s_X3_strikeQuarter (upd r 0 (nI ((m + 1) % 1440))) e).1 = (s_X4_tick f).1 ∧ Rel (s_X3_strikeQuarter (upd r 0 (nI ((m + 1) % 1440))) e).2.1 (s_X3_strikeQuarter (upd r 0 (nI ((m + 1) % 1440))) e).2.2 (s_X4_tick f).2 ∧ Good (B + 1) (s_X4_tick f).2 ∧ (s_X4_tick f).2 0 = nI ((m + 1) % 1440) := by
  have hx : (m + 1) % 1440 < 1440 := Nat.mod_lt _ (by omega)
  have ex : irem (nI m + 1) 1440 = nI ((m + 1) % 1440) := next_min hm
  generalize hX : nI ((m + 1) % 1440) = X at ex ⊢
  have hR1 : Rel (upd r 0 X) e (upd f 0 X) := rel_upd hR 0 (by omega) X
  have hG1 : GoodX B B (upd f 0 X) := by
    refine ⟨⟨?_, ?_⟩, hG.2⟩
    · show 0 ≤ X.toInt
      rw [← hX, nI_toInt (by omega)]
      omega
    · show X.toInt < 1440
      rw [← hX, nI_toInt (by omega)]
      omega
  have hH : s_X0_hushesAt (upd r 0 X) X = s_X4_silentAt (upd f 0 X) X := hush_eq (hR1.1 1 (by omega)) (hR1.1 2 (by omega)) (hR1.1 3 (by omega)) X
  have e15 : irem X 15 = 0 := by
    rw [← hX]
    have e2 : irem (nI ((m + 1) % 1440)) 15 = nI ((m + 1) % 1440 % 15) := mod_nI (d := 15) (by omega) (by omega) (by omega)
    rw [e2, show (m + 1) % 1440 % 15 = 0 by omega]
    rfl
  have e60 : irem X 60 = nI ((m + 1) % 1440 % 60) := by
    rw [← hX]
    exact mod_nI (d := 60) (by omega) (by omega) (by omega)
  have hdq : s_X2_dueAt 1 X = s_X4_dueAfter_1 (nI m) := by rw [← hX]; exact duq_all m hm hq
  obtain ⟨d1, p1, p2, p3⟩ := dueOk_nat (due_all1 m hm).2
  obtain ⟨d0, p4, p5, p6⟩ := dueOk_nat (due_all0 m hm).2
  have hrl : s_X2_isReleasedAt 0 X = if (m + 1) % 1440 % 60 = 0 then 1 else 0 := by rw [← hX]; exact rel_all _ hx
  have r1X : upd r 0 X 0 = X := rfl
  have r11 : upd r 0 X 1 = f 1 := hR.1 1 (by omega)
  generalize hs : s_X4_silentAt (upd f 0 X) X = sl at hH
  -- when the trains aren't blocked
  have open_ : s_X0_blocksAt (upd r 0 X) X = 0 → s_X4_tick f = (if irem X 60 = 0 then (((s_X4_release_1 (upd f 0 X) (nI d1) sl).1 + (s_X4_release_0 (s_X4_release_1 (upd f 0 X) (nI d1) sl).2 (nI d0) sl).1), (s_X4_release_0 (s_X4_release_1 (upd f 0 X) (nI d1) sl).2 (nI d0) sl).2) else ((s_X4_release_1 (upd f 0 X) (nI d1) sl).1, (s_X4_release_1 (upd f 0 X) (nI d1) sl).2)) →
      (s_X3_strikeQuarter (upd r 0 X) e).1 = (s_X4_tick f).1 ∧ Rel (s_X3_strikeQuarter (upd r 0 X) e).2.1 (s_X3_strikeQuarter (upd r 0 X) e).2.2 (s_X4_tick f).2 ∧ Good (B + 1) (s_X4_tick f).2 ∧ (s_X4_tick f).2 0 = X := by
    intro hb ht
    rw [ht]
    obtain ⟨q1, q2, q3, q4, -⟩ := rel_1 hR1 hG1 (by omega) p1 p2 sl
    unfold s_X3_strikeQuarter
    rw [r1X, hb, if_pos rfl, hH, hdq, p3]
    generalize s_X3_release_q (upd r 0 X) e (nI d1) sl = u at q1 q2 ⊢
    generalize s_X4_release_1 (upd f 0 X) (nI d1) sl = v at q1 q2 q3 q4 ⊢
    have u0 : u.2.1 0 = X := (q2.1 0 (by omega)).trans q4
    rw [u0, hrl]
    by_cases h60 : (m + 1) % 1440 % 60 = 0
    · rw [if_pos h60, if_neg (by decide), e60, h60, if_pos (show nI 0 = 0 from rfl)]
      have hdh : s_X2_dueAt 0 X = nI d0 := by rw [← hX, duh_all m hm (by omega), p6]
      rw [hdh]
      obtain ⟨s1, s2, s3, s4, -⟩ := rel_0 q2 q3 (by omega) p4 p5 sl
      exact ⟨by rw [q1, s1], s2, s3.good, s4.trans q4⟩
    · rw [if_neg h60, if_pos rfl, e60, if_neg (show ¬ nI ((m + 1) % 1440 % 60) = 0 from nI_ne0 (by omega) (by omega))]
      exact ⟨q1, q2, (q3.mono (by omega) (by omega)).good, q4⟩
  have tk : s_X4_tick f = (if sl = 0 then (if irem X 60 = 0 then (((s_X4_release_1 (upd f 0 X) (nI d1) sl).1 + (s_X4_release_0 (s_X4_release_1 (upd f 0 X) (nI d1) sl).2 (nI d0) sl).1), (s_X4_release_0 (s_X4_release_1 (upd f 0 X) (nI d1) sl).2 (nI d0) sl).2) else ((s_X4_release_1 (upd f 0 X) (nI d1) sl).1, (s_X4_release_1 (upd f 0 X) (nI d1) sl).2)) else (if f 1 = 1 then (0, upd f 0 X) else (if irem X 60 = 0 then (((s_X4_release_1 (upd f 0 X) (nI d1) sl).1 + (s_X4_release_0 (s_X4_release_1 (upd f 0 X) (nI d1) sl).2 (nI d0) sl).1), (s_X4_release_0 (s_X4_release_1 (upd f 0 X) (nI d1) sl).2 (nI d0) sl).2) else ((s_X4_release_1 (upd f 0 X) (nI d1) sl).1, (s_X4_release_1 (upd f 0 X) (nI d1) sl).2)))) := by
    unfold s_X4_tick
    rw [e0, ex, if_pos e15, hs, p3, p6]
  by_cases hz : sl = 0
  · refine open_ ?_ ?_
    · unfold s_X0_blocksAt
      rw [hH, if_pos hz]
      by_cases h1 : upd r 0 X 1 = 1
      · rw [if_pos h1]
      · rw [if_neg h1]
    · rw [tk, if_pos hz]
  · by_cases h1 : f 1 = 1
    · have hb : ¬ s_X0_blocksAt (upd r 0 X) X = 0 := by
        unfold s_X0_blocksAt
        rw [hH, if_neg hz, if_pos (r11.trans h1)]
        decide
      have t2 : s_X4_tick f = (0, upd f 0 X) := by rw [tk, if_neg hz, if_pos h1]
      rw [t2]
      unfold s_X3_strikeQuarter
      rw [r1X, if_neg hb]
      exact ⟨rfl, hR1, (hG1.mono (by omega) (by omega)).good, rfl⟩
    · refine open_ ?_ ?_
      · unfold s_X0_blocksAt
        rw [if_neg (fun z => h1 (r11.symm.trans z))]
      · rw [tk, if_neg hz, if_neg h1]
